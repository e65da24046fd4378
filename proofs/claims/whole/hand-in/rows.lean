section
-- ===== PART A: goes FIRST, ahead of the names: the tables' words, and 'selects' of the private methods out of them =====
/-- a private method of a class that the tables say can be made, by its rows of tables_1 -/
def lw_okq (q : MethodName × Nat) : Prop := (q.1.cls ≠ "java/lang/invoke/MethodHandle" ∧ q.1.cls ≠ "java/lang/invoke/VarHandle") ∧ Cond.instantiable q.1.cls q.2 ∈ tables_1 ∧ Cond.privateMethod q.1 ∈ tables_1 ∧ Cond.instanceMethod q.1 ∈ tables_1
theorem lw_p0 : lw_okq (⟨"CommitLog", "takeShareOfThisCommit", "()I"⟩, 10) := ⟨⟨by decide +kernel, by decide +kernel⟩, List.mem_of_getElem? (i := 5) (by decide +kernel), List.mem_of_getElem? (i := 72) (by decide +kernel), List.mem_of_getElem? (i := 73) (by decide +kernel)⟩
theorem lw_p1 : lw_okq (⟨"CommitLog", "countWritten", "()I"⟩, 10) := ⟨⟨by decide +kernel, by decide +kernel⟩, List.mem_of_getElem? (i := 5) (by decide +kernel), List.mem_of_getElem? (i := 76) (by decide +kernel), List.mem_of_getElem? (i := 77) (by decide +kernel)⟩
theorem lw_p2 : lw_okq (⟨"CommitLog", "bringToLog", "(I)V"⟩, 10) := ⟨⟨by decide +kernel, by decide +kernel⟩, List.mem_of_getElem? (i := 5) (by decide +kernel), List.mem_of_getElem? (i := 80) (by decide +kernel), List.mem_of_getElem? (i := 81) (by decide +kernel)⟩
theorem lw_p3 : lw_okq (⟨"CommitLog", "clearWritten", "()V"⟩, 10) := ⟨⟨by decide +kernel, by decide +kernel⟩, List.mem_of_getElem? (i := 5) (by decide +kernel), List.mem_of_getElem? (i := 90) (by decide +kernel), List.mem_of_getElem? (i := 91) (by decide +kernel)⟩
theorem lw_p4 : lw_okq (⟨"CommitLog", "bringLogToDisk", "(I)V"⟩, 10) := ⟨⟨by decide +kernel, by decide +kernel⟩, List.mem_of_getElem? (i := 5) (by decide +kernel), List.mem_of_getElem? (i := 94) (by decide +kernel), List.mem_of_getElem? (i := 95) (by decide +kernel)⟩
theorem lw_p5 : lw_okq (⟨"CommitLog", "takeWorkFromDisk", "()V"⟩, 10) := ⟨⟨by decide +kernel, by decide +kernel⟩, List.mem_of_getElem? (i := 5) (by decide +kernel), List.mem_of_getElem? (i := 102) (by decide +kernel), List.mem_of_getElem? (i := 103) (by decide +kernel)⟩
theorem lw_p6 : lw_okq (⟨"CommitLogModel", "many", "()I"⟩, 10) := ⟨⟨by decide +kernel, by decide +kernel⟩, List.mem_of_getElem? (i := 118) (by decide +kernel), List.mem_of_getElem? (i := 182) (by decide +kernel), List.mem_of_getElem? (i := 183) (by decide +kernel)⟩
theorem lw_p7 : lw_okq (⟨"CommitLogModel", "note", "()V"⟩, 10) := ⟨⟨by decide +kernel, by decide +kernel⟩, List.mem_of_getElem? (i := 118) (by decide +kernel), List.mem_of_getElem? (i := 186) (by decide +kernel), List.mem_of_getElem? (i := 187) (by decide +kernel)⟩
theorem lw_p8 : lw_okq (⟨"CommitLogModel", "lay", "(I)V"⟩, 10) := ⟨⟨by decide +kernel, by decide +kernel⟩, List.mem_of_getElem? (i := 118) (by decide +kernel), List.mem_of_getElem? (i := 193) (by decide +kernel), List.mem_of_getElem? (i := 194) (by decide +kernel)⟩
theorem lw_p9 : lw_okq (⟨"CommitLogModel", "fresh", "()V"⟩, 10) := ⟨⟨by decide +kernel, by decide +kernel⟩, List.mem_of_getElem? (i := 118) (by decide +kernel), List.mem_of_getElem? (i := 201) (by decide +kernel), List.mem_of_getElem? (i := 202) (by decide +kernel)⟩
theorem lw_p10 : lw_okq (⟨"CommitLogModel", "loggedMany", "()I"⟩, 10) := ⟨⟨by decide +kernel, by decide +kernel⟩, List.mem_of_getElem? (i := 118) (by decide +kernel), List.mem_of_getElem? (i := 213) (by decide +kernel), List.mem_of_getElem? (i := 214) (by decide +kernel)⟩
def lw_privs_1 : List (MethodName × Nat) := [(⟨"CommitLog", "takeShareOfThisCommit", "()I"⟩, 10), (⟨"CommitLog", "countWritten", "()I"⟩, 10), (⟨"CommitLog", "bringToLog", "(I)V"⟩, 10), (⟨"CommitLog", "clearWritten", "()V"⟩, 10), (⟨"CommitLog", "bringLogToDisk", "(I)V"⟩, 10), (⟨"CommitLog", "takeWorkFromDisk", "()V"⟩, 10), (⟨"CommitLogModel", "many", "()I"⟩, 10), (⟨"CommitLogModel", "note", "()V"⟩, 10), (⟨"CommitLogModel", "lay", "(I)V"⟩, 10), (⟨"CommitLogModel", "fresh", "()V"⟩, 10), (⟨"CommitLogModel", "loggedMany", "()I"⟩, 10)]
theorem lw_r1 : ∀ q ∈ lw_privs_1, lw_okq q := List.forall_mem_cons.mpr ⟨lw_p0, List.forall_mem_cons.mpr ⟨lw_p1, List.forall_mem_cons.mpr ⟨lw_p2, List.forall_mem_cons.mpr ⟨lw_p3, List.forall_mem_cons.mpr ⟨lw_p4, List.forall_mem_cons.mpr ⟨lw_p5, List.forall_mem_cons.mpr ⟨lw_p6, List.forall_mem_cons.mpr ⟨lw_p7, List.forall_mem_cons.mpr ⟨lw_p8, List.forall_mem_cons.mpr ⟨lw_p9, List.forall_mem_cons.mpr ⟨lw_p10, fun _ h => absurd h List.not_mem_nil⟩⟩⟩⟩⟩⟩⟩⟩⟩⟩⟩
def lw_privs : List (MethodName × Nat) := lw_privs_1
def lw_tbl : List Cond := k2_sels lw_privs ++ tables_1
theorem lw_privs_ok : ∀ q ∈ lw_privs, lw_okq q := lw_r1
-- ===== end of PART A; then your names; then what follows =====
/-! ===== BEGIN words of one list among another's, by their places ===== -/
theorem goodIn_r {big : List Cond} (ws : List Cond) (ps : List Nat) (hp : ws = ps.filterMap (fun i => big[i]?)) (h : ws.all goodWord = true) : GoodIn big ws := by
  intro w hw
  have h1 := List.all_eq_true.mp h w hw
  rw [hp] at hw
  obtain ⟨i, -, hi⟩ := List.mem_filterMap.mp hw
  have hm : w ∈ big := by first | exact List.mem_of_getElem? hi | exact List.getElem?_mem hi
  exact ⟨hm, good_of_word h1⟩
theorem goodIn_app {big a b : List Cond} (ha : GoodIn big a) (hb : GoodIn big b) : GoodIn big (a ++ b) := fun w h => (List.mem_append.mp h).elim (ha w) (hb w)
theorem goodIn_ca {big a b : List Cond} {c : Cond} (ha : GoodIn big (c :: a)) (hb : GoodIn big b) : GoodIn big (c :: (a ++ b)) := fun w h => (List.mem_cons.mp h).elim (fun e => ha w (List.mem_cons.mpr (Or.inl e))) (fun h => (List.mem_append.mp h).elim (fun h => ha w (List.mem_cons.mpr (Or.inr h))) (hb w))
theorem goodIn_sub {big ws : List Cond} (hm : ∀ w ∈ ws, w ∈ big) (h : ws.all goodWord = true) : GoodIn big ws := fun w hw => ⟨hm w hw, good_of_word (List.all_eq_true.mp h w hw)⟩
/-! ===== END ===== -/

/-! ===== BEGIN printed: names, fields, word lists, decode rows ===== -/
def RX0 : String := "CommitLog"
def TX0 : u_T := fun k => match k with
  | 0 => ("CommitLog", "work", "[I", true)
  | 1 => ("CommitLog", "onDisk", "[I", true)
  | 2 => ("CommitLog", "logBytes", "[I", true)
  | 3 => ("CommitLog", "written", "[Z", true)
  | 4 => ("CommitLog", "logged", "[Z", true)
  | 5 => ("CommitLog", "powered", "Z", false)
  | 6 => ("CommitLog", "marked", "Z", false)
  | 7 => ("CommitLog", "latestCount", "I", false)
  | 8 => ("CommitLog", "commitsUntilCut", "I", false)
  | _ => ("CommitLog", "cutShare", "I", false)
def tyX0 : Nat → FieldType := fun k => match k with
  | 0 => .array .int
  | 1 => .array .int
  | 2 => .array .int
  | 3 => .array .boolean
  | 4 => .array .boolean
  | 5 => .boolean
  | 6 => .boolean
  | 7 => .int
  | 8 => .int
  | _ => .int
abbrev wsX00 : List Cond := u_ws RX0 TX0 10
theorem nmX0 : ∀ a, a < 10 → ∀ b, b < 10 → a ≠ b → (TX0 a).2.1 ≠ (TX0 b).2.1 := by decide +kernel
theorem tyX0_ok : ∀ k, k < 10 → parseFieldDescriptor (TX0 k).2.2.1 = some (tyX0 k) := by decide +kernel
abbrev cX0_init : ByteArray := prog_1_method_1_code
def yX0_init : MethodName := ⟨RX0, "<init>", "()V"⟩
abbrev cX0_write : ByteArray := prog_1_method_2_code
def yX0_write : MethodName := ⟨RX0, "write", "(III)Z"⟩
abbrev cX0_read : ByteArray := prog_1_method_3_code
def yX0_read : MethodName := ⟨RX0, "read", "(II)I"⟩
abbrev cX0_disk : ByteArray := prog_1_method_4_code
def yX0_disk : MethodName := ⟨RX0, "disk", "(II)I"⟩
abbrev cX0_dirty : ByteArray := prog_1_method_5_code
def yX0_dirty : MethodName := ⟨RX0, "dirty", "(I)Z"⟩
abbrev cX0_commit : ByteArray := prog_1_method_6_code
def yX0_commit : MethodName := ⟨RX0, "commit", "()Z"⟩
abbrev cX0_revert : ByteArray := prog_1_method_7_code
def yX0_revert : MethodName := ⟨RX0, "revert", "()Z"⟩
abbrev cX0_cut : ByteArray := prog_1_method_8_code
def yX0_cut : MethodName := ⟨RX0, "cut", "(II)Z"⟩
abbrev cX0_start : ByteArray := prog_1_method_9_code
def yX0_start : MethodName := ⟨RX0, "start", "(I)Z"⟩
abbrev cX0_state : ByteArray := prog_1_method_10_code
def yX0_state : MethodName := ⟨RX0, "state", "(I)I"⟩
abbrev cX0_isBlock : ByteArray := prog_1_method_11_code
def yX0_isBlock : MethodName := ⟨RX0, "isBlock", "(I)Z"⟩
abbrev cX0_isPlace : ByteArray := prog_1_method_12_code
def yX0_isPlace : MethodName := ⟨RX0, "isPlace", "(I)Z"⟩
abbrev cX0_takeShareOfThisCommit : ByteArray := prog_1_method_13_code
def yX0_takeShareOfThisCommit : MethodName := ⟨RX0, "takeShareOfThisCommit", "()I"⟩
abbrev cX0_countWritten : ByteArray := prog_1_method_14_code
def yX0_countWritten : MethodName := ⟨RX0, "countWritten", "()I"⟩
abbrev cX0_bringToLog : ByteArray := prog_1_method_15_code
def yX0_bringToLog : MethodName := ⟨RX0, "bringToLog", "(I)V"⟩
abbrev cX0_bringLogToDisk : ByteArray := prog_1_method_16_code
def yX0_bringLogToDisk : MethodName := ⟨RX0, "bringLogToDisk", "(I)V"⟩
abbrev cX0_takeWorkFromDisk : ByteArray := prog_1_method_17_code
def yX0_takeWorkFromDisk : MethodName := ⟨RX0, "takeWorkFromDisk", "()V"⟩
abbrev cX0_clearWritten : ByteArray := prog_1_method_18_code
def yX0_clearWritten : MethodName := ⟨RX0, "clearWritten", "()V"⟩
abbrev cX0_copyBlock : ByteArray := prog_1_method_19_code
def yX0_copyBlock : MethodName := ⟨RX0, "copyBlock", "([I[II)V"⟩
def RX1 : String := "CommitLogModel"
def TX1 : u_T := fun k => match k with
  | 0 => ("CommitLogModel", "work", "[B", true)
  | 1 => ("CommitLogModel", "disk", "[B", true)
  | 2 => ("CommitLogModel", "log", "[B", true)
  | 3 => ("CommitLogModel", "dirty", "[Z", true)
  | 4 => ("CommitLogModel", "logged", "[Z", true)
  | 5 => ("CommitLogModel", "off", "Z", false)
  | 6 => ("CommitLogModel", "mark", "Z", false)
  | 7 => ("CommitLogModel", "latest", "I", false)
  | 8 => ("CommitLogModel", "left", "I", false)
  | _ => ("CommitLogModel", "share", "I", false)
def tyX1 : Nat → FieldType := fun k => match k with
  | 0 => .array .byte
  | 1 => .array .byte
  | 2 => .array .byte
  | 3 => .array .boolean
  | 4 => .array .boolean
  | 5 => .boolean
  | 6 => .boolean
  | 7 => .int
  | 8 => .int
  | _ => .int
abbrev wsX10 : List Cond := u_ws RX1 TX1 10
theorem nmX1 : ∀ a, a < 10 → ∀ b, b < 10 → a ≠ b → (TX1 a).2.1 ≠ (TX1 b).2.1 := by decide +kernel
theorem tyX1_ok : ∀ k, k < 10 → parseFieldDescriptor (TX1 k).2.2.1 = some (tyX1 k) := by decide +kernel
abbrev cX1_init : ByteArray := prog_3_method_1_code
def yX1_init : MethodName := ⟨RX1, "<init>", "()V"⟩
abbrev cX1_in : ByteArray := prog_3_method_2_code
def yX1_in : MethodName := ⟨RX1, "in", "(III)Z"⟩
abbrev cX1_isPlace : ByteArray := prog_3_method_3_code
def yX1_isPlace : MethodName := ⟨RX1, "isPlace", "(II)Z"⟩
abbrev cX1_write : ByteArray := prog_3_method_4_code
def yX1_write : MethodName := ⟨RX1, "write", "(III)Z"⟩
abbrev cX1_read : ByteArray := prog_3_method_5_code
def yX1_read : MethodName := ⟨RX1, "read", "(II)I"⟩
abbrev cX1_disk : ByteArray := prog_3_method_6_code
def yX1_disk : MethodName := ⟨RX1, "disk", "(II)I"⟩
abbrev cX1_dirty : ByteArray := prog_3_method_7_code
def yX1_dirty : MethodName := ⟨RX1, "dirty", "(I)Z"⟩
abbrev cX1_copy : ByteArray := prog_3_method_8_code
def yX1_copy : MethodName := ⟨RX1, "copy", "([B[BI)V"⟩
abbrev cX1_many : ByteArray := prog_3_method_9_code
def yX1_many : MethodName := ⟨RX1, "many", "()I"⟩
abbrev cX1_note : ByteArray := prog_3_method_10_code
def yX1_note : MethodName := ⟨RX1, "note", "()V"⟩
abbrev cX1_lay : ByteArray := prog_3_method_11_code
def yX1_lay : MethodName := ⟨RX1, "lay", "(I)V"⟩
abbrev cX1_fresh : ByteArray := prog_3_method_12_code
def yX1_fresh : MethodName := ⟨RX1, "fresh", "()V"⟩
abbrev cX1_commit : ByteArray := prog_3_method_13_code
def yX1_commit : MethodName := ⟨RX1, "commit", "()Z"⟩
abbrev cX1_revert : ByteArray := prog_3_method_14_code
def yX1_revert : MethodName := ⟨RX1, "revert", "()Z"⟩
abbrev cX1_cut : ByteArray := prog_3_method_15_code
def yX1_cut : MethodName := ⟨RX1, "cut", "(II)Z"⟩
abbrev cX1_loggedMany : ByteArray := prog_3_method_16_code
def yX1_loggedMany : MethodName := ⟨RX1, "loggedMany", "()I"⟩
abbrev cX1_start : ByteArray := prog_3_method_17_code
def yX1_start : MethodName := ⟨RX1, "start", "(I)Z"⟩
abbrev cX1_state : ByteArray := prog_3_method_18_code
def yX1_state : MethodName := ⟨RX1, "state", "(I)I"⟩
def RJ10 : String := "java/lang/System"
def TJ10 : u_T := fun k => match k with
  | _ => ("", "", "", false)
def tyJ10 : Nat → FieldType := fun k => match k with
  | _ => .int
abbrev wsJ100 : List Cond := u_ws RJ10 TJ10 0
theorem nmJ10 : ∀ a, a < 0 → ∀ b, b < 0 → a ≠ b → (TJ10 a).2.1 ≠ (TJ10 b).2.1 := by decide +kernel
theorem tyJ10_ok : ∀ k, k < 0 → parseFieldDescriptor (TJ10 k).2.2.1 = some (tyJ10 k) := by decide +kernel
def RL : String := "CommitLogLaw"
abbrev cL_law : ByteArray := code
def yL_law : MethodName := ⟨RL, "law", "([I)Z"⟩
def wsX0_init : List Cond := .code yX0_init cX0_init 1 none :: ([.methodLink RX0 3 objectInit, .instanceMethod objectInit, .code objectInit ⟨#[0xb1]⟩ 1 none, .arrayClass .int, .fieldLink RX0 9 "CommitLog" "work" "[I", .fieldLink RX0 13 "CommitLog" "onDisk" "[I", .fieldLink RX0 16 "CommitLog" "logBytes" "[I", .arrayClass .boolean, .fieldLink RX0 19 "CommitLog" "written" "[Z", .fieldLink RX0 23 "CommitLog" "logged" "[Z", .fieldLink RX0 26 "CommitLog" "powered" "Z", .fieldLink RX0 30 "CommitLog" "marked" "Z", .fieldLink RX0 33 "CommitLog" "latestCount" "I", .fieldLink RX0 37 "CommitLog" "commitsUntilCut" "I", .fieldLink RX0 40 "CommitLog" "cutShare" "I"] ++ wsX00)
def wsX0_isBlock : List Cond := .code yX0_isBlock cX0_isBlock 1 (some .boolean) :: ([])
def wsX0_isPlace : List Cond := .code yX0_isPlace cX0_isPlace 1 (some .boolean) :: ([])
def wsX0_write : List Cond := .code yX0_write cX0_write 4 (some .boolean) :: ([.fieldLink RX0 26 "CommitLog" "powered" "Z", .fieldLink RX0 9 "CommitLog" "work" "[I", .fieldLink RX0 19 "CommitLog" "written" "[Z", .methodLink RX0 43 yX0_isBlock, .static yX0_isBlock, .initialized RX0, .code yX0_isBlock cX0_isBlock 1 (some .boolean), .methodLink RX0 47 yX0_isPlace, .static yX0_isPlace, .code yX0_isPlace cX0_isPlace 1 (some .boolean)] ++ wsX00)
def wsX0_read : List Cond := .code yX0_read cX0_read 3 (some .int) :: ([.fieldLink RX0 26 "CommitLog" "powered" "Z", .fieldLink RX0 9 "CommitLog" "work" "[I", .methodLink RX0 43 yX0_isBlock, .static yX0_isBlock, .initialized RX0, .code yX0_isBlock cX0_isBlock 1 (some .boolean), .methodLink RX0 47 yX0_isPlace, .static yX0_isPlace, .code yX0_isPlace cX0_isPlace 1 (some .boolean)] ++ wsX00)
def wsX0_disk : List Cond := .code yX0_disk cX0_disk 3 (some .int) :: ([.fieldLink RX0 13 "CommitLog" "onDisk" "[I", .methodLink RX0 43 yX0_isBlock, .static yX0_isBlock, .initialized RX0, .code yX0_isBlock cX0_isBlock 1 (some .boolean), .methodLink RX0 47 yX0_isPlace, .static yX0_isPlace, .code yX0_isPlace cX0_isPlace 1 (some .boolean)] ++ wsX00)
def wsX0_dirty : List Cond := .code yX0_dirty cX0_dirty 2 (some .boolean) :: ([.fieldLink RX0 26 "CommitLog" "powered" "Z", .fieldLink RX0 19 "CommitLog" "written" "[Z", .methodLink RX0 43 yX0_isBlock, .static yX0_isBlock, .initialized RX0, .code yX0_isBlock cX0_isBlock 1 (some .boolean)] ++ wsX00)
def wsX0_takeShareOfThisCommit : List Cond := .code yX0_takeShareOfThisCommit cX0_takeShareOfThisCommit 1 (some .int) :: ([.fieldLink RX0 37 "CommitLog" "commitsUntilCut" "I", .fieldLink RX0 40 "CommitLog" "cutShare" "I"] ++ wsX00)
def wsX0_countWritten : List Cond := .code yX0_countWritten cX0_countWritten 3 (some .int) :: ([.fieldLink RX0 19 "CommitLog" "written" "[Z"] ++ wsX00)
def wsX0_copyBlock : List Cond := .code yX0_copyBlock cX0_copyBlock 3 none :: ([.methodLink RX0 74 arraycopyName, .native arraycopyName, .static arraycopyName, .initialized "java/lang/System"])
def wsX0_bringToLog : List Cond := .code yX0_bringToLog cX0_bringToLog 4 none :: ([.fieldLink RX0 23 "CommitLog" "logged" "[Z", .fieldLink RX0 19 "CommitLog" "written" "[Z", .fieldLink RX0 9 "CommitLog" "work" "[I", .fieldLink RX0 16 "CommitLog" "logBytes" "[I", .methodLink RX0 70 yX0_copyBlock, .static yX0_copyBlock, .initialized RX0, .code yX0_copyBlock cX0_copyBlock 3 none, .methodLink RX0 74 arraycopyName, .native arraycopyName, .static arraycopyName, .initialized "java/lang/System"] ++ wsX00)
def wsX0_clearWritten : List Cond := .code yX0_clearWritten cX0_clearWritten 2 none :: ([.fieldLink RX0 19 "CommitLog" "written" "[Z"] ++ wsX00)
def wsX0_bringLogToDisk : List Cond := .code yX0_bringLogToDisk cX0_bringLogToDisk 4 none :: ([.fieldLink RX0 23 "CommitLog" "logged" "[Z", .fieldLink RX0 16 "CommitLog" "logBytes" "[I", .fieldLink RX0 13 "CommitLog" "onDisk" "[I", .methodLink RX0 70 yX0_copyBlock, .static yX0_copyBlock, .initialized RX0, .code yX0_copyBlock cX0_copyBlock 3 none, .methodLink RX0 74 arraycopyName, .native arraycopyName, .static arraycopyName, .initialized "java/lang/System"] ++ wsX00)
def wsX0_commit_r1 : List Cond := [Cond.fieldLink RX0 26 "CommitLog" "powered" "Z", Cond.fieldLink RX0 33 "CommitLog" "latestCount" "I", Cond.fieldLink RX0 30 "CommitLog" "marked" "Z", Cond.methodLink RX0 50 yX0_takeShareOfThisCommit, Cond.instanceMethod yX0_takeShareOfThisCommit, Cond.selects RX0 yX0_takeShareOfThisCommit yX0_takeShareOfThisCommit, Cond.initialized RX0, Cond.code yX0_takeShareOfThisCommit cX0_takeShareOfThisCommit 1 (some .int), Cond.fieldLink RX0 37 "CommitLog" "commitsUntilCut" "I", Cond.fieldLink RX0 40 "CommitLog" "cutShare" "I", Cond.methodLink RX0 54 yX0_countWritten, Cond.instanceMethod yX0_countWritten, Cond.selects RX0 yX0_countWritten yX0_countWritten, Cond.code yX0_countWritten cX0_countWritten 3 (some .int), Cond.fieldLink RX0 19 "CommitLog" "written" "[Z", Cond.methodLink RX0 57 yX0_bringToLog, Cond.instanceMethod yX0_bringToLog, Cond.selects RX0 yX0_bringToLog yX0_bringToLog, Cond.code yX0_bringToLog cX0_bringToLog 4 none, Cond.fieldLink RX0 23 "CommitLog" "logged" "[Z", Cond.fieldLink RX0 9 "CommitLog" "work" "[I", Cond.fieldLink RX0 16 "CommitLog" "logBytes" "[I", Cond.methodLink RX0 70 yX0_copyBlock, Cond.static yX0_copyBlock]
def wsX0_commit_r2 : List Cond := [Cond.code yX0_copyBlock cX0_copyBlock 3 none, Cond.methodLink RX0 74 arraycopyName, Cond.native arraycopyName, Cond.static arraycopyName, Cond.initialized "java/lang/System", Cond.methodLink RX0 61 yX0_clearWritten, Cond.instanceMethod yX0_clearWritten, Cond.selects RX0 yX0_clearWritten yX0_clearWritten, Cond.code yX0_clearWritten cX0_clearWritten 2 none, Cond.methodLink RX0 64 yX0_bringLogToDisk, Cond.instanceMethod yX0_bringLogToDisk, Cond.selects RX0 yX0_bringLogToDisk yX0_bringLogToDisk, Cond.code yX0_bringLogToDisk cX0_bringLogToDisk 4 none, Cond.fieldLink RX0 13 "CommitLog" "onDisk" "[I"]
def wsX0_commit : List Cond := .code yX0_commit cX0_commit 2 (some .boolean) :: ((wsX0_commit_r1 ++ wsX0_commit_r2) ++ wsX00)
def wsX0_takeWorkFromDisk : List Cond := .code yX0_takeWorkFromDisk cX0_takeWorkFromDisk 1 none :: ([.fieldLink RX0 13 "CommitLog" "onDisk" "[I", .fieldLink RX0 9 "CommitLog" "work" "[I", .methodLink RX0 74 arraycopyName, .native arraycopyName, .static arraycopyName, .initialized "java/lang/System", .methodLink RX0 61 yX0_clearWritten, .instanceMethod yX0_clearWritten, .selects RX0 yX0_clearWritten yX0_clearWritten, .initialized RX0, .code yX0_clearWritten cX0_clearWritten 2 none, .fieldLink RX0 19 "CommitLog" "written" "[Z"] ++ wsX00)
def wsX0_revert : List Cond := .code yX0_revert cX0_revert 1 (some .boolean) :: ([.fieldLink RX0 26 "CommitLog" "powered" "Z", .methodLink RX0 67 yX0_takeWorkFromDisk, .instanceMethod yX0_takeWorkFromDisk, .selects RX0 yX0_takeWorkFromDisk yX0_takeWorkFromDisk, .initialized RX0, .code yX0_takeWorkFromDisk cX0_takeWorkFromDisk 1 none, .fieldLink RX0 13 "CommitLog" "onDisk" "[I", .fieldLink RX0 9 "CommitLog" "work" "[I", .methodLink RX0 74 arraycopyName, .native arraycopyName, .static arraycopyName, .initialized "java/lang/System", .methodLink RX0 61 yX0_clearWritten, .instanceMethod yX0_clearWritten, .selects RX0 yX0_clearWritten yX0_clearWritten, .code yX0_clearWritten cX0_clearWritten 2 none, .fieldLink RX0 19 "CommitLog" "written" "[Z"] ++ wsX00)
def wsX0_cut : List Cond := .code yX0_cut cX0_cut 3 (some .boolean) :: ([.fieldLink RX0 26 "CommitLog" "powered" "Z", .fieldLink RX0 37 "CommitLog" "commitsUntilCut" "I", .fieldLink RX0 40 "CommitLog" "cutShare" "I"] ++ wsX00)
def wsX0_start_r1 : List Cond := [Cond.fieldLink RX0 26 "CommitLog" "powered" "Z", Cond.fieldLink RX0 30 "CommitLog" "marked" "Z", Cond.fieldLink RX0 33 "CommitLog" "latestCount" "I", Cond.methodLink RX0 64 yX0_bringLogToDisk, Cond.instanceMethod yX0_bringLogToDisk, Cond.selects RX0 yX0_bringLogToDisk yX0_bringLogToDisk, Cond.initialized RX0, Cond.code yX0_bringLogToDisk cX0_bringLogToDisk 4 none, Cond.fieldLink RX0 23 "CommitLog" "logged" "[Z", Cond.fieldLink RX0 16 "CommitLog" "logBytes" "[I", Cond.fieldLink RX0 13 "CommitLog" "onDisk" "[I", Cond.methodLink RX0 70 yX0_copyBlock, Cond.static yX0_copyBlock, Cond.code yX0_copyBlock cX0_copyBlock 3 none, Cond.methodLink RX0 74 arraycopyName, Cond.native arraycopyName, Cond.static arraycopyName, Cond.initialized "java/lang/System", Cond.methodLink RX0 67 yX0_takeWorkFromDisk, Cond.instanceMethod yX0_takeWorkFromDisk, Cond.selects RX0 yX0_takeWorkFromDisk yX0_takeWorkFromDisk, Cond.code yX0_takeWorkFromDisk cX0_takeWorkFromDisk 1 none, Cond.fieldLink RX0 9 "CommitLog" "work" "[I", Cond.methodLink RX0 61 yX0_clearWritten]
def wsX0_start_r2 : List Cond := [Cond.instanceMethod yX0_clearWritten, Cond.selects RX0 yX0_clearWritten yX0_clearWritten, Cond.code yX0_clearWritten cX0_clearWritten 2 none, Cond.fieldLink RX0 19 "CommitLog" "written" "[Z"]
def wsX0_start : List Cond := .code yX0_start cX0_start 2 (some .boolean) :: ((wsX0_start_r1 ++ wsX0_start_r2) ++ wsX00)
def wsX0_state : List Cond := .code yX0_state cX0_state 2 (some .int) :: ([.fieldLink RX0 26 "CommitLog" "powered" "Z", .fieldLink RX0 30 "CommitLog" "marked" "Z", .fieldLink RX0 33 "CommitLog" "latestCount" "I"] ++ wsX00)
def wsX1_init : List Cond := .code yX1_init cX1_init 1 none :: ([.methodLink RX1 1 objectInit, .instanceMethod objectInit, .code objectInit ⟨#[0xb1]⟩ 1 none, .arrayClass .byte, .fieldLink RX1 7 "CommitLogModel" "work" "[B", .fieldLink RX1 13 "CommitLogModel" "disk" "[B", .fieldLink RX1 16 "CommitLogModel" "log" "[B", .arrayClass .boolean, .fieldLink RX1 19 "CommitLogModel" "dirty" "[Z", .fieldLink RX1 23 "CommitLogModel" "logged" "[Z"] ++ wsX10)
def wsX1_in : List Cond := .code yX1_in cX1_in 3 (some .boolean) :: ([])
def wsX1_isPlace : List Cond := .code yX1_isPlace cX1_isPlace 2 (some .boolean) :: ([.methodLink RX1 26 yX1_in, .static yX1_in, .initialized RX1, .code yX1_in cX1_in 3 (some .boolean)])
def wsX1_write : List Cond := .code yX1_write cX1_write 4 (some .boolean) :: ([.fieldLink RX1 30 "CommitLogModel" "off" "Z", .fieldLink RX1 7 "CommitLogModel" "work" "[B", .fieldLink RX1 19 "CommitLogModel" "dirty" "[Z", .methodLink RX1 34 yX1_isPlace, .static yX1_isPlace, .initialized RX1, .code yX1_isPlace cX1_isPlace 2 (some .boolean), .methodLink RX1 26 yX1_in, .static yX1_in, .code yX1_in cX1_in 3 (some .boolean)] ++ wsX10)
def wsX1_read : List Cond := .code yX1_read cX1_read 3 (some .int) :: ([.fieldLink RX1 30 "CommitLogModel" "off" "Z", .fieldLink RX1 7 "CommitLogModel" "work" "[B", .methodLink RX1 34 yX1_isPlace, .static yX1_isPlace, .initialized RX1, .code yX1_isPlace cX1_isPlace 2 (some .boolean), .methodLink RX1 26 yX1_in, .static yX1_in, .code yX1_in cX1_in 3 (some .boolean)] ++ wsX10)
def wsX1_disk : List Cond := .code yX1_disk cX1_disk 3 (some .int) :: ([.fieldLink RX1 13 "CommitLogModel" "disk" "[B", .methodLink RX1 34 yX1_isPlace, .static yX1_isPlace, .initialized RX1, .code yX1_isPlace cX1_isPlace 2 (some .boolean), .methodLink RX1 26 yX1_in, .static yX1_in, .code yX1_in cX1_in 3 (some .boolean)] ++ wsX10)
def wsX1_dirty : List Cond := .code yX1_dirty cX1_dirty 2 (some .boolean) :: ([.fieldLink RX1 30 "CommitLogModel" "off" "Z", .fieldLink RX1 19 "CommitLogModel" "dirty" "[Z", .methodLink RX1 26 yX1_in, .static yX1_in, .initialized RX1, .code yX1_in cX1_in 3 (some .boolean)] ++ wsX10)
def wsX1_copy : List Cond := .code yX1_copy cX1_copy 4 none :: ([])
def wsX1_many : List Cond := .code yX1_many cX1_many 3 (some .int) :: ([.fieldLink RX1 19 "CommitLogModel" "dirty" "[Z"] ++ wsX10)
def wsX1_note : List Cond := .code yX1_note cX1_note 2 none :: ([.fieldLink RX1 23 "CommitLogModel" "logged" "[Z", .fieldLink RX1 19 "CommitLogModel" "dirty" "[Z", .fieldLink RX1 7 "CommitLogModel" "work" "[B", .fieldLink RX1 16 "CommitLogModel" "log" "[B", .fieldLink RX1 42 "CommitLogModel" "mark" "Z", .methodLink RX1 38 yX1_copy, .static yX1_copy, .initialized RX1, .code yX1_copy cX1_copy 4 none] ++ wsX10)
def wsX1_lay : List Cond := .code yX1_lay cX1_lay 4 none :: ([.fieldLink RX1 23 "CommitLogModel" "logged" "[Z", .fieldLink RX1 16 "CommitLogModel" "log" "[B", .fieldLink RX1 13 "CommitLogModel" "disk" "[B", .methodLink RX1 38 yX1_copy, .static yX1_copy, .initialized RX1, .code yX1_copy cX1_copy 4 none] ++ wsX10)
def wsX1_fresh : List Cond := .code yX1_fresh cX1_fresh 2 none :: ([.fieldLink RX1 13 "CommitLogModel" "disk" "[B", .fieldLink RX1 7 "CommitLogModel" "work" "[B", .fieldLink RX1 19 "CommitLogModel" "dirty" "[Z", .methodLink RX1 38 yX1_copy, .static yX1_copy, .initialized RX1, .code yX1_copy cX1_copy 4 none] ++ wsX10)
def wsX1_commit_r1 : List Cond := [Cond.fieldLink RX1 30 "CommitLogModel" "off" "Z", Cond.fieldLink RX1 49 "CommitLogModel" "latest" "I", Cond.fieldLink RX1 53 "CommitLogModel" "left" "I", Cond.fieldLink RX1 56 "CommitLogModel" "share" "I", Cond.fieldLink RX1 42 "CommitLogModel" "mark" "Z", Cond.fieldLink RX1 19 "CommitLogModel" "dirty" "[Z", Cond.methodLink RX1 45 yX1_many, Cond.instanceMethod yX1_many, Cond.selects RX1 yX1_many yX1_many, Cond.initialized RX1, Cond.code yX1_many cX1_many 3 (some .int), Cond.methodLink RX1 59 yX1_note, Cond.instanceMethod yX1_note, Cond.selects RX1 yX1_note yX1_note, Cond.code yX1_note cX1_note 2 none, Cond.fieldLink RX1 23 "CommitLogModel" "logged" "[Z", Cond.fieldLink RX1 7 "CommitLogModel" "work" "[B", Cond.fieldLink RX1 16 "CommitLogModel" "log" "[B", Cond.methodLink RX1 38 yX1_copy, Cond.static yX1_copy, Cond.code yX1_copy cX1_copy 4 none, Cond.methodLink RX1 62 yX1_lay, Cond.instanceMethod yX1_lay, Cond.selects RX1 yX1_lay yX1_lay]
def wsX1_commit_r2 : List Cond := [Cond.code yX1_lay cX1_lay 4 none, Cond.fieldLink RX1 13 "CommitLogModel" "disk" "[B"]
def wsX1_commit : List Cond := .code yX1_commit cX1_commit 3 (some .boolean) :: ((wsX1_commit_r1 ++ wsX1_commit_r2) ++ wsX10)
def wsX1_revert : List Cond := .code yX1_revert cX1_revert 1 (some .boolean) :: ([.fieldLink RX1 30 "CommitLogModel" "off" "Z", .methodLink RX1 66 yX1_fresh, .instanceMethod yX1_fresh, .selects RX1 yX1_fresh yX1_fresh, .initialized RX1, .code yX1_fresh cX1_fresh 2 none, .fieldLink RX1 13 "CommitLogModel" "disk" "[B", .fieldLink RX1 7 "CommitLogModel" "work" "[B", .fieldLink RX1 19 "CommitLogModel" "dirty" "[Z", .methodLink RX1 38 yX1_copy, .static yX1_copy, .code yX1_copy cX1_copy 4 none] ++ wsX10)
def wsX1_cut : List Cond := .code yX1_cut cX1_cut 3 (some .boolean) :: ([.fieldLink RX1 30 "CommitLogModel" "off" "Z", .fieldLink RX1 53 "CommitLogModel" "left" "I", .fieldLink RX1 56 "CommitLogModel" "share" "I", .methodLink RX1 26 yX1_in, .static yX1_in, .initialized RX1, .code yX1_in cX1_in 3 (some .boolean)] ++ wsX10)
def wsX1_loggedMany : List Cond := .code yX1_loggedMany cX1_loggedMany 3 (some .int) :: ([.fieldLink RX1 23 "CommitLogModel" "logged" "[Z"] ++ wsX10)
def wsX1_start_r1 : List Cond := [Cond.fieldLink RX1 30 "CommitLogModel" "off" "Z", Cond.fieldLink RX1 42 "CommitLogModel" "mark" "Z", Cond.methodLink RX1 26 yX1_in, Cond.static yX1_in, Cond.initialized RX1, Cond.code yX1_in cX1_in 3 (some .boolean), Cond.methodLink RX1 69 yX1_loggedMany, Cond.instanceMethod yX1_loggedMany, Cond.selects RX1 yX1_loggedMany yX1_loggedMany, Cond.code yX1_loggedMany cX1_loggedMany 3 (some .int), Cond.fieldLink RX1 23 "CommitLogModel" "logged" "[Z", Cond.methodLink RX1 62 yX1_lay, Cond.instanceMethod yX1_lay, Cond.selects RX1 yX1_lay yX1_lay, Cond.code yX1_lay cX1_lay 4 none, Cond.fieldLink RX1 16 "CommitLogModel" "log" "[B", Cond.fieldLink RX1 13 "CommitLogModel" "disk" "[B", Cond.methodLink RX1 38 yX1_copy, Cond.static yX1_copy, Cond.code yX1_copy cX1_copy 4 none, Cond.methodLink RX1 66 yX1_fresh, Cond.instanceMethod yX1_fresh, Cond.selects RX1 yX1_fresh yX1_fresh, Cond.code yX1_fresh cX1_fresh 2 none]
def wsX1_start_r2 : List Cond := [Cond.fieldLink RX1 7 "CommitLogModel" "work" "[B", Cond.fieldLink RX1 19 "CommitLogModel" "dirty" "[Z"]
def wsX1_start : List Cond := .code yX1_start cX1_start 2 (some .boolean) :: ((wsX1_start_r1 ++ wsX1_start_r2) ++ wsX10)
def wsX1_state : List Cond := .code yX1_state cX1_state 2 (some .int) :: ([.fieldLink RX1 30 "CommitLogModel" "off" "Z", .fieldLink RX1 42 "CommitLogModel" "mark" "Z", .fieldLink RX1 49 "CommitLogModel" "latest" "I"] ++ wsX10)
def wsL_law_r1 : List Cond := [Cond.classLink RL 7 RX0, Cond.instantiable RX0 10, Cond.initialized RX0, Cond.classLink RL 10 RX1, Cond.instantiable RX1 10, Cond.initialized RX1, Cond.methodLink RL 9 yX0_init, Cond.instanceMethod yX0_init, Cond.code yX0_init cX0_init 1 none, Cond.methodLink RX0 3 objectInit, Cond.instanceMethod objectInit, Cond.code objectInit ⟨#[0xb1]⟩ 1 none, Cond.arrayClass .int, Cond.fieldLink RX0 9 "CommitLog" "work" "[I", Cond.fieldLink RX0 13 "CommitLog" "onDisk" "[I", Cond.fieldLink RX0 16 "CommitLog" "logBytes" "[I", Cond.arrayClass .boolean, Cond.fieldLink RX0 19 "CommitLog" "written" "[Z", Cond.fieldLink RX0 23 "CommitLog" "logged" "[Z", Cond.fieldLink RX0 26 "CommitLog" "powered" "Z", Cond.fieldLink RX0 30 "CommitLog" "marked" "Z", Cond.fieldLink RX0 33 "CommitLog" "latestCount" "I", Cond.fieldLink RX0 37 "CommitLog" "commitsUntilCut" "I", Cond.fieldLink RX0 40 "CommitLog" "cutShare" "I"]
def wsL_law_r2 : List Cond := [Cond.methodLink RL 12 yX1_init, Cond.instanceMethod yX1_init, Cond.code yX1_init cX1_init 1 none, Cond.methodLink RX1 1 objectInit, Cond.arrayClass .byte, Cond.fieldLink RX1 7 "CommitLogModel" "work" "[B", Cond.fieldLink RX1 13 "CommitLogModel" "disk" "[B", Cond.fieldLink RX1 16 "CommitLogModel" "log" "[B", Cond.fieldLink RX1 19 "CommitLogModel" "dirty" "[Z", Cond.fieldLink RX1 23 "CommitLogModel" "logged" "[Z", Cond.methodLink RL 13 yX0_write, Cond.instanceMethod yX0_write, Cond.selects RX0 yX0_write yX0_write, Cond.code yX0_write cX0_write 4 (some .boolean), Cond.methodLink RX0 43 yX0_isBlock, Cond.static yX0_isBlock, Cond.code yX0_isBlock cX0_isBlock 1 (some .boolean), Cond.methodLink RX0 47 yX0_isPlace, Cond.static yX0_isPlace, Cond.code yX0_isPlace cX0_isPlace 1 (some .boolean), Cond.methodLink RL 17 yX1_write, Cond.instanceMethod yX1_write, Cond.selects RX1 yX1_write yX1_write, Cond.code yX1_write cX1_write 4 (some .boolean)]
def wsL_law_r3 : List Cond := [Cond.fieldLink RX1 30 "CommitLogModel" "off" "Z", Cond.methodLink RX1 34 yX1_isPlace, Cond.static yX1_isPlace, Cond.code yX1_isPlace cX1_isPlace 2 (some .boolean), Cond.methodLink RX1 26 yX1_in, Cond.static yX1_in, Cond.code yX1_in cX1_in 3 (some .boolean), Cond.methodLink RL 18 yX0_read, Cond.instanceMethod yX0_read, Cond.selects RX0 yX0_read yX0_read, Cond.code yX0_read cX0_read 3 (some .int), Cond.methodLink RL 22 yX1_read, Cond.instanceMethod yX1_read, Cond.selects RX1 yX1_read yX1_read, Cond.code yX1_read cX1_read 3 (some .int), Cond.methodLink RL 23 yX0_disk, Cond.instanceMethod yX0_disk, Cond.selects RX0 yX0_disk yX0_disk, Cond.code yX0_disk cX0_disk 3 (some .int), Cond.methodLink RL 26 yX1_disk, Cond.instanceMethod yX1_disk, Cond.selects RX1 yX1_disk yX1_disk, Cond.code yX1_disk cX1_disk 3 (some .int), Cond.methodLink RL 27 yX0_dirty]
def wsL_law_r4 : List Cond := [Cond.instanceMethod yX0_dirty, Cond.selects RX0 yX0_dirty yX0_dirty, Cond.code yX0_dirty cX0_dirty 2 (some .boolean), Cond.methodLink RL 31 yX1_dirty, Cond.instanceMethod yX1_dirty, Cond.selects RX1 yX1_dirty yX1_dirty, Cond.code yX1_dirty cX1_dirty 2 (some .boolean), Cond.methodLink RL 32 yX0_commit, Cond.instanceMethod yX0_commit, Cond.selects RX0 yX0_commit yX0_commit, Cond.code yX0_commit cX0_commit 2 (some .boolean), Cond.methodLink RX0 50 yX0_takeShareOfThisCommit, Cond.instanceMethod yX0_takeShareOfThisCommit, Cond.selects RX0 yX0_takeShareOfThisCommit yX0_takeShareOfThisCommit, Cond.code yX0_takeShareOfThisCommit cX0_takeShareOfThisCommit 1 (some .int), Cond.methodLink RX0 54 yX0_countWritten, Cond.instanceMethod yX0_countWritten, Cond.selects RX0 yX0_countWritten yX0_countWritten, Cond.code yX0_countWritten cX0_countWritten 3 (some .int), Cond.methodLink RX0 57 yX0_bringToLog, Cond.instanceMethod yX0_bringToLog, Cond.selects RX0 yX0_bringToLog yX0_bringToLog, Cond.code yX0_bringToLog cX0_bringToLog 4 none, Cond.methodLink RX0 70 yX0_copyBlock]
def wsL_law_r5 : List Cond := [Cond.static yX0_copyBlock, Cond.code yX0_copyBlock cX0_copyBlock 3 none, Cond.methodLink RX0 74 arraycopyName, Cond.native arraycopyName, Cond.static arraycopyName, Cond.initialized "java/lang/System", Cond.methodLink RX0 61 yX0_clearWritten, Cond.instanceMethod yX0_clearWritten, Cond.selects RX0 yX0_clearWritten yX0_clearWritten, Cond.code yX0_clearWritten cX0_clearWritten 2 none, Cond.methodLink RX0 64 yX0_bringLogToDisk, Cond.instanceMethod yX0_bringLogToDisk, Cond.selects RX0 yX0_bringLogToDisk yX0_bringLogToDisk, Cond.code yX0_bringLogToDisk cX0_bringLogToDisk 4 none, Cond.methodLink RL 36 yX1_commit, Cond.instanceMethod yX1_commit, Cond.selects RX1 yX1_commit yX1_commit, Cond.code yX1_commit cX1_commit 3 (some .boolean), Cond.fieldLink RX1 49 "CommitLogModel" "latest" "I", Cond.fieldLink RX1 53 "CommitLogModel" "left" "I", Cond.fieldLink RX1 56 "CommitLogModel" "share" "I", Cond.fieldLink RX1 42 "CommitLogModel" "mark" "Z", Cond.methodLink RX1 45 yX1_many, Cond.instanceMethod yX1_many]
def wsL_law_r6 : List Cond := [Cond.selects RX1 yX1_many yX1_many, Cond.code yX1_many cX1_many 3 (some .int), Cond.methodLink RX1 59 yX1_note, Cond.instanceMethod yX1_note, Cond.selects RX1 yX1_note yX1_note, Cond.code yX1_note cX1_note 2 none, Cond.methodLink RX1 38 yX1_copy, Cond.static yX1_copy, Cond.code yX1_copy cX1_copy 4 none, Cond.methodLink RX1 62 yX1_lay, Cond.instanceMethod yX1_lay, Cond.selects RX1 yX1_lay yX1_lay, Cond.code yX1_lay cX1_lay 4 none, Cond.methodLink RL 37 yX0_revert, Cond.instanceMethod yX0_revert, Cond.selects RX0 yX0_revert yX0_revert, Cond.code yX0_revert cX0_revert 1 (some .boolean), Cond.methodLink RX0 67 yX0_takeWorkFromDisk, Cond.instanceMethod yX0_takeWorkFromDisk, Cond.selects RX0 yX0_takeWorkFromDisk yX0_takeWorkFromDisk, Cond.code yX0_takeWorkFromDisk cX0_takeWorkFromDisk 1 none, Cond.methodLink RL 40 yX1_revert, Cond.instanceMethod yX1_revert, Cond.selects RX1 yX1_revert yX1_revert]
def wsL_law_r7 : List Cond := [Cond.code yX1_revert cX1_revert 1 (some .boolean), Cond.methodLink RX1 66 yX1_fresh, Cond.instanceMethod yX1_fresh, Cond.selects RX1 yX1_fresh yX1_fresh, Cond.code yX1_fresh cX1_fresh 2 none, Cond.methodLink RL 41 yX0_cut, Cond.instanceMethod yX0_cut, Cond.selects RX0 yX0_cut yX0_cut, Cond.code yX0_cut cX0_cut 3 (some .boolean), Cond.methodLink RL 45 yX1_cut, Cond.instanceMethod yX1_cut, Cond.selects RX1 yX1_cut yX1_cut, Cond.code yX1_cut cX1_cut 3 (some .boolean), Cond.methodLink RL 46 yX0_start, Cond.instanceMethod yX0_start, Cond.selects RX0 yX0_start yX0_start, Cond.code yX0_start cX0_start 2 (some .boolean), Cond.methodLink RL 49 yX1_start, Cond.instanceMethod yX1_start, Cond.selects RX1 yX1_start yX1_start, Cond.code yX1_start cX1_start 2 (some .boolean), Cond.methodLink RX1 69 yX1_loggedMany, Cond.instanceMethod yX1_loggedMany, Cond.selects RX1 yX1_loggedMany yX1_loggedMany]
def wsL_law_r8 : List Cond := [Cond.code yX1_loggedMany cX1_loggedMany 3 (some .int), Cond.methodLink RL 50 yX0_state, Cond.instanceMethod yX0_state, Cond.selects RX0 yX0_state yX0_state, Cond.code yX0_state cX0_state 2 (some .int), Cond.methodLink RL 54 yX1_state, Cond.instanceMethod yX1_state, Cond.selects RX1 yX1_state yX1_state, Cond.code yX1_state cX1_state 2 (some .int)]
def wsL_law : List Cond := (wsL_law_r1 ++ (wsL_law_r2 ++ (wsL_law_r3 ++ (wsL_law_r4 ++ (wsL_law_r5 ++ (wsL_law_r6 ++ (wsL_law_r7 ++ wsL_law_r8))))))) ++ wsX00 ++ wsX10 ++ ([] : List Cond)
set_option maxRecDepth 20000 in
theorem wsL_law_in : ∀ w ∈ wsL_law, w ∈ lw_tbl := fun w h => (goodIn_p wsL_law [19, 22, 132, 59, 62, 65, 169, 172, 175, 69, 179, 73, 183, 77, 187, 81, 85, 89, 93, 96, 103, 107, 191, 195, 199, 202, 206, 111, 115, 210, 214, 119, 218, 123, 222, 226, 127, 230] (by decide +kernel) (by decide +kernel) w h).1
theorem inlX0 : ∀ w ∈ wsX00, w ∈ wsL_law := fun _ h => List.mem_append_left _ (List.mem_append_left _ (List.mem_append_right _ h))
theorem inX0 : ∀ w ∈ wsX00, w ∈ lw_tbl := fun w h => wsL_law_in w (inlX0 w h)
theorem inlX1 : ∀ w ∈ wsX10, w ∈ wsL_law := fun _ h => List.mem_append_left _ (List.mem_append_right _ h)
theorem inX1 : ∀ w ∈ wsX10, w ∈ lw_tbl := fun w h => wsL_law_in w (inlX1 w h)
theorem inJ10 : ∀ w ∈ wsJ100, w ∈ lw_tbl := by decide +kernel
theorem dX0_init_0 : decode cX0_init 0 = .ok (.aload_n 0, 1) := by decide +kernel
theorem dX0_init_1 : decode cX0_init 1 = .ok (.invokespecial 3, 3) := by decide +kernel
theorem dX0_init_4 : decode cX0_init 4 = .ok (.aload_n 0, 1) := by decide +kernel
theorem dX0_init_5 : decode cX0_init 5 = .ok (.sipush 384, 3) := by decide +kernel
theorem dX0_init_8 : decode cX0_init 8 = .ok (.newarray .int, 2) := by decide +kernel
theorem dX0_init_10 : decode cX0_init 10 = .ok (.putfield 9, 3) := by decide +kernel
theorem dX0_init_13 : decode cX0_init 13 = .ok (.aload_n 0, 1) := by decide +kernel
theorem dX0_init_14 : decode cX0_init 14 = .ok (.sipush 384, 3) := by decide +kernel
theorem dX0_init_17 : decode cX0_init 17 = .ok (.newarray .int, 2) := by decide +kernel
theorem dX0_init_19 : decode cX0_init 19 = .ok (.putfield 13, 3) := by decide +kernel
theorem dX0_init_22 : decode cX0_init 22 = .ok (.aload_n 0, 1) := by decide +kernel
theorem dX0_init_23 : decode cX0_init 23 = .ok (.sipush 384, 3) := by decide +kernel
theorem dX0_init_26 : decode cX0_init 26 = .ok (.newarray .int, 2) := by decide +kernel
theorem dX0_init_28 : decode cX0_init 28 = .ok (.putfield 16, 3) := by decide +kernel
theorem dX0_init_31 : decode cX0_init 31 = .ok (.aload_n 0, 1) := by decide +kernel
theorem dX0_init_32 : decode cX0_init 32 = .ok (.bipush 24, 2) := by decide +kernel
theorem dX0_init_34 : decode cX0_init 34 = .ok (.newarray .boolean, 2) := by decide +kernel
theorem dX0_init_36 : decode cX0_init 36 = .ok (.putfield 19, 3) := by decide +kernel
theorem dX0_init_39 : decode cX0_init 39 = .ok (.aload_n 0, 1) := by decide +kernel
theorem dX0_init_40 : decode cX0_init 40 = .ok (.bipush 24, 2) := by decide +kernel
theorem dX0_init_42 : decode cX0_init 42 = .ok (.newarray .boolean, 2) := by decide +kernel
theorem dX0_init_44 : decode cX0_init 44 = .ok (.putfield 23, 3) := by decide +kernel
theorem dX0_init_47 : decode cX0_init 47 = .ok (.aload_n 0, 1) := by decide +kernel
theorem dX0_init_48 : decode cX0_init 48 = .ok (.iconst 1, 1) := by decide +kernel
theorem dX0_init_49 : decode cX0_init 49 = .ok (.putfield 26, 3) := by decide +kernel
theorem dX0_init_52 : decode cX0_init 52 = .ok (.aload_n 0, 1) := by decide +kernel
theorem dX0_init_53 : decode cX0_init 53 = .ok (.iconst 0, 1) := by decide +kernel
theorem dX0_init_54 : decode cX0_init 54 = .ok (.putfield 30, 3) := by decide +kernel
theorem dX0_init_57 : decode cX0_init 57 = .ok (.aload_n 0, 1) := by decide +kernel
theorem dX0_init_58 : decode cX0_init 58 = .ok (.iconst 0, 1) := by decide +kernel
theorem dX0_init_59 : decode cX0_init 59 = .ok (.putfield 33, 3) := by decide +kernel
theorem dX0_init_62 : decode cX0_init 62 = .ok (.aload_n 0, 1) := by decide +kernel
theorem dX0_init_63 : decode cX0_init 63 = .ok (.iconst 0, 1) := by decide +kernel
theorem dX0_init_64 : decode cX0_init 64 = .ok (.putfield 37, 3) := by decide +kernel
theorem dX0_init_67 : decode cX0_init 67 = .ok (.aload_n 0, 1) := by decide +kernel
theorem dX0_init_68 : decode cX0_init 68 = .ok (.iconst 0, 1) := by decide +kernel
theorem dX0_init_69 : decode cX0_init 69 = .ok (.putfield 40, 3) := by decide +kernel
theorem dX0_init_72 : decode cX0_init 72 = .ok (.return_, 1) := by decide +kernel
set_option maxRecDepth 20000 in
theorem ggX0_write_X0_isBlock : GoodIn wsX0_write wsX0_isBlock := goodIn_r _ [7] (by decide +kernel) (by decide +kernel)
set_option maxRecDepth 20000 in
theorem gX0_write_X0_isBlock : GoodIn wsX0_write (va_wsS RX0 43 yX0_isBlock wsX0_isBlock) := goodIn_app (goodIn_of _ (by decide +kernel)) ggX0_write_X0_isBlock
set_option maxRecDepth 20000 in
theorem ggX0_write_X0_isPlace : GoodIn wsX0_write wsX0_isPlace := goodIn_r _ [10] (by decide +kernel) (by decide +kernel)
set_option maxRecDepth 20000 in
theorem gX0_write_X0_isPlace : GoodIn wsX0_write (va_wsS RX0 47 yX0_isPlace wsX0_isPlace) := goodIn_app (goodIn_of _ (by decide +kernel)) ggX0_write_X0_isPlace
theorem dX0_write_0 : decode cX0_write 0 = .ok (.aload_n 0, 1) := by decide +kernel
theorem dX0_write_1 : decode cX0_write 1 = .ok (.getfield 26, 3) := by decide +kernel
theorem dX0_write_4 : decode cX0_write 4 = .ok (.ifCond .eq 17, 3) := by decide +kernel
theorem dX0_write_7 : decode cX0_write 7 = .ok (.iload_n 1, 1) := by decide +kernel
theorem dX0_write_8 : decode cX0_write 8 = .ok (.invokestatic 43, 3) := by decide +kernel
theorem dX0_write_11 : decode cX0_write 11 = .ok (.ifCond .eq 10, 3) := by decide +kernel
theorem dX0_write_14 : decode cX0_write 14 = .ok (.iload_n 2, 1) := by decide +kernel
theorem dX0_write_15 : decode cX0_write 15 = .ok (.invokestatic 47, 3) := by decide +kernel
theorem dX0_write_18 : decode cX0_write 18 = .ok (.ifCond .ne 5, 3) := by decide +kernel
theorem dX0_write_21 : decode cX0_write 21 = .ok (.iconst 0, 1) := by decide +kernel
theorem dX0_write_22 : decode cX0_write 22 = .ok (.ireturn, 1) := by decide +kernel
theorem dX0_write_23 : decode cX0_write 23 = .ok (.aload_n 0, 1) := by decide +kernel
theorem dX0_write_24 : decode cX0_write 24 = .ok (.getfield 9, 3) := by decide +kernel
theorem dX0_write_27 : decode cX0_write 27 = .ok (.iload_n 1, 1) := by decide +kernel
theorem dX0_write_28 : decode cX0_write 28 = .ok (.bipush 16, 2) := by decide +kernel
theorem dX0_write_30 : decode cX0_write 30 = .ok (.imul, 1) := by decide +kernel
theorem dX0_write_31 : decode cX0_write 31 = .ok (.iload_n 2, 1) := by decide +kernel
theorem dX0_write_32 : decode cX0_write 32 = .ok (.iadd, 1) := by decide +kernel
theorem dX0_write_33 : decode cX0_write 33 = .ok (.iload_n 3, 1) := by decide +kernel
theorem dX0_write_34 : decode cX0_write 34 = .ok (.sipush 255, 3) := by decide +kernel
theorem dX0_write_37 : decode cX0_write 37 = .ok (.iand, 1) := by decide +kernel
theorem dX0_write_38 : decode cX0_write 38 = .ok (.iastore, 1) := by decide +kernel
theorem dX0_write_39 : decode cX0_write 39 = .ok (.aload_n 0, 1) := by decide +kernel
theorem dX0_write_40 : decode cX0_write 40 = .ok (.getfield 19, 3) := by decide +kernel
theorem dX0_write_43 : decode cX0_write 43 = .ok (.iload_n 1, 1) := by decide +kernel
theorem dX0_write_44 : decode cX0_write 44 = .ok (.iconst 1, 1) := by decide +kernel
theorem dX0_write_45 : decode cX0_write 45 = .ok (.bastore, 1) := by decide +kernel
theorem dX0_write_46 : decode cX0_write 46 = .ok (.iconst 1, 1) := by decide +kernel
theorem dX0_write_47 : decode cX0_write 47 = .ok (.ireturn, 1) := by decide +kernel
set_option maxRecDepth 20000 in
theorem ggX0_read_X0_isBlock : GoodIn wsX0_read wsX0_isBlock := goodIn_r _ [6] (by decide +kernel) (by decide +kernel)
set_option maxRecDepth 20000 in
theorem gX0_read_X0_isBlock : GoodIn wsX0_read (va_wsS RX0 43 yX0_isBlock wsX0_isBlock) := goodIn_app (goodIn_of _ (by decide +kernel)) ggX0_read_X0_isBlock
set_option maxRecDepth 20000 in
theorem ggX0_read_X0_isPlace : GoodIn wsX0_read wsX0_isPlace := goodIn_r _ [9] (by decide +kernel) (by decide +kernel)
set_option maxRecDepth 20000 in
theorem gX0_read_X0_isPlace : GoodIn wsX0_read (va_wsS RX0 47 yX0_isPlace wsX0_isPlace) := goodIn_app (goodIn_of _ (by decide +kernel)) ggX0_read_X0_isPlace
theorem dX0_read_0 : decode cX0_read 0 = .ok (.aload_n 0, 1) := by decide +kernel
theorem dX0_read_1 : decode cX0_read 1 = .ok (.getfield 26, 3) := by decide +kernel
theorem dX0_read_4 : decode cX0_read 4 = .ok (.ifCond .eq 17, 3) := by decide +kernel
theorem dX0_read_7 : decode cX0_read 7 = .ok (.iload_n 1, 1) := by decide +kernel
theorem dX0_read_8 : decode cX0_read 8 = .ok (.invokestatic 43, 3) := by decide +kernel
theorem dX0_read_11 : decode cX0_read 11 = .ok (.ifCond .eq 10, 3) := by decide +kernel
theorem dX0_read_14 : decode cX0_read 14 = .ok (.iload_n 2, 1) := by decide +kernel
theorem dX0_read_15 : decode cX0_read 15 = .ok (.invokestatic 47, 3) := by decide +kernel
theorem dX0_read_18 : decode cX0_read 18 = .ok (.ifCond .ne 5, 3) := by decide +kernel
theorem dX0_read_21 : decode cX0_read 21 = .ok (.iconst (-1), 1) := by decide +kernel
theorem dX0_read_22 : decode cX0_read 22 = .ok (.ireturn, 1) := by decide +kernel
theorem dX0_read_23 : decode cX0_read 23 = .ok (.aload_n 0, 1) := by decide +kernel
theorem dX0_read_24 : decode cX0_read 24 = .ok (.getfield 9, 3) := by decide +kernel
theorem dX0_read_27 : decode cX0_read 27 = .ok (.iload_n 1, 1) := by decide +kernel
theorem dX0_read_28 : decode cX0_read 28 = .ok (.bipush 16, 2) := by decide +kernel
theorem dX0_read_30 : decode cX0_read 30 = .ok (.imul, 1) := by decide +kernel
theorem dX0_read_31 : decode cX0_read 31 = .ok (.iload_n 2, 1) := by decide +kernel
theorem dX0_read_32 : decode cX0_read 32 = .ok (.iadd, 1) := by decide +kernel
theorem dX0_read_33 : decode cX0_read 33 = .ok (.iaload, 1) := by decide +kernel
theorem dX0_read_34 : decode cX0_read 34 = .ok (.ireturn, 1) := by decide +kernel
set_option maxRecDepth 20000 in
theorem ggX0_disk_X0_isBlock : GoodIn wsX0_disk wsX0_isBlock := goodIn_r _ [5] (by decide +kernel) (by decide +kernel)
set_option maxRecDepth 20000 in
theorem gX0_disk_X0_isBlock : GoodIn wsX0_disk (va_wsS RX0 43 yX0_isBlock wsX0_isBlock) := goodIn_app (goodIn_of _ (by decide +kernel)) ggX0_disk_X0_isBlock
set_option maxRecDepth 20000 in
theorem ggX0_disk_X0_isPlace : GoodIn wsX0_disk wsX0_isPlace := goodIn_r _ [8] (by decide +kernel) (by decide +kernel)
set_option maxRecDepth 20000 in
theorem gX0_disk_X0_isPlace : GoodIn wsX0_disk (va_wsS RX0 47 yX0_isPlace wsX0_isPlace) := goodIn_app (goodIn_of _ (by decide +kernel)) ggX0_disk_X0_isPlace
theorem dX0_disk_0 : decode cX0_disk 0 = .ok (.iload_n 1, 1) := by decide +kernel
theorem dX0_disk_1 : decode cX0_disk 1 = .ok (.invokestatic 43, 3) := by decide +kernel
theorem dX0_disk_4 : decode cX0_disk 4 = .ok (.ifCond .eq 10, 3) := by decide +kernel
theorem dX0_disk_7 : decode cX0_disk 7 = .ok (.iload_n 2, 1) := by decide +kernel
theorem dX0_disk_8 : decode cX0_disk 8 = .ok (.invokestatic 47, 3) := by decide +kernel
theorem dX0_disk_11 : decode cX0_disk 11 = .ok (.ifCond .ne 5, 3) := by decide +kernel
theorem dX0_disk_14 : decode cX0_disk 14 = .ok (.iconst (-1), 1) := by decide +kernel
theorem dX0_disk_15 : decode cX0_disk 15 = .ok (.ireturn, 1) := by decide +kernel
theorem dX0_disk_16 : decode cX0_disk 16 = .ok (.aload_n 0, 1) := by decide +kernel
theorem dX0_disk_17 : decode cX0_disk 17 = .ok (.getfield 13, 3) := by decide +kernel
theorem dX0_disk_20 : decode cX0_disk 20 = .ok (.iload_n 1, 1) := by decide +kernel
theorem dX0_disk_21 : decode cX0_disk 21 = .ok (.bipush 16, 2) := by decide +kernel
theorem dX0_disk_23 : decode cX0_disk 23 = .ok (.imul, 1) := by decide +kernel
theorem dX0_disk_24 : decode cX0_disk 24 = .ok (.iload_n 2, 1) := by decide +kernel
theorem dX0_disk_25 : decode cX0_disk 25 = .ok (.iadd, 1) := by decide +kernel
theorem dX0_disk_26 : decode cX0_disk 26 = .ok (.iaload, 1) := by decide +kernel
theorem dX0_disk_27 : decode cX0_disk 27 = .ok (.ireturn, 1) := by decide +kernel
set_option maxRecDepth 20000 in
theorem ggX0_dirty_X0_isBlock : GoodIn wsX0_dirty wsX0_isBlock := goodIn_r _ [6] (by decide +kernel) (by decide +kernel)
set_option maxRecDepth 20000 in
theorem gX0_dirty_X0_isBlock : GoodIn wsX0_dirty (va_wsS RX0 43 yX0_isBlock wsX0_isBlock) := goodIn_app (goodIn_of _ (by decide +kernel)) ggX0_dirty_X0_isBlock
theorem dX0_dirty_0 : decode cX0_dirty 0 = .ok (.aload_n 0, 1) := by decide +kernel
theorem dX0_dirty_1 : decode cX0_dirty 1 = .ok (.getfield 26, 3) := by decide +kernel
theorem dX0_dirty_4 : decode cX0_dirty 4 = .ok (.ifCond .eq 23, 3) := by decide +kernel
theorem dX0_dirty_7 : decode cX0_dirty 7 = .ok (.iload_n 1, 1) := by decide +kernel
theorem dX0_dirty_8 : decode cX0_dirty 8 = .ok (.invokestatic 43, 3) := by decide +kernel
theorem dX0_dirty_11 : decode cX0_dirty 11 = .ok (.ifCond .eq 16, 3) := by decide +kernel
theorem dX0_dirty_14 : decode cX0_dirty 14 = .ok (.aload_n 0, 1) := by decide +kernel
theorem dX0_dirty_15 : decode cX0_dirty 15 = .ok (.getfield 19, 3) := by decide +kernel
theorem dX0_dirty_18 : decode cX0_dirty 18 = .ok (.iload_n 1, 1) := by decide +kernel
theorem dX0_dirty_19 : decode cX0_dirty 19 = .ok (.baload, 1) := by decide +kernel
theorem dX0_dirty_20 : decode cX0_dirty 20 = .ok (.ifCond .eq 7, 3) := by decide +kernel
theorem dX0_dirty_23 : decode cX0_dirty 23 = .ok (.iconst 1, 1) := by decide +kernel
theorem dX0_dirty_24 : decode cX0_dirty 24 = .ok (.goto 4, 3) := by decide +kernel
theorem dX0_dirty_27 : decode cX0_dirty 27 = .ok (.iconst 0, 1) := by decide +kernel
theorem dX0_dirty_28 : decode cX0_dirty 28 = .ok (.ireturn, 1) := by decide +kernel
set_option maxRecDepth 20000 in
theorem ggX0_commit_X0_takeShareOfThisCommit : GoodIn wsX0_commit wsX0_takeShareOfThisCommit := goodIn_r _ [8, 9, 10, 39, 40, 41, 42, 43, 44, 45, 46, 47, 48] (by decide +kernel) (by decide +kernel)
set_option maxRecDepth 20000 in
theorem gX0_commit_X0_takeShareOfThisCommit : GoodIn wsX0_commit (wsV RX0 50 RX0 yX0_takeShareOfThisCommit wsX0_takeShareOfThisCommit) := goodIn_app (goodIn_of _ (by decide +kernel)) ggX0_commit_X0_takeShareOfThisCommit
set_option maxRecDepth 20000 in
theorem ggX0_commit_X0_countWritten : GoodIn wsX0_commit wsX0_countWritten := goodIn_r _ [14, 15, 39, 40, 41, 42, 43, 44, 45, 46, 47, 48] (by decide +kernel) (by decide +kernel)
set_option maxRecDepth 20000 in
theorem gX0_commit_X0_countWritten : GoodIn wsX0_commit (wsV RX0 54 RX0 yX0_countWritten wsX0_countWritten) := goodIn_app (goodIn_of _ (by decide +kernel)) ggX0_commit_X0_countWritten
set_option maxRecDepth 20000 in
theorem ggX0_commit_X0_bringToLog : GoodIn wsX0_commit wsX0_bringToLog := goodIn_r _ [19, 20, 15, 21, 22, 23, 24, 7, 25, 26, 27, 28, 29, 39, 40, 41, 42, 43, 44, 45, 46, 47, 48] (by decide +kernel) (by decide +kernel)
set_option maxRecDepth 20000 in
theorem gX0_commit_X0_bringToLog : GoodIn wsX0_commit (wsV RX0 57 RX0 yX0_bringToLog wsX0_bringToLog) := goodIn_app (goodIn_of _ (by decide +kernel)) ggX0_commit_X0_bringToLog
set_option maxRecDepth 20000 in
theorem ggX0_commit_X0_clearWritten : GoodIn wsX0_commit wsX0_clearWritten := goodIn_r _ [33, 15, 39, 40, 41, 42, 43, 44, 45, 46, 47, 48] (by decide +kernel) (by decide +kernel)
set_option maxRecDepth 20000 in
theorem gX0_commit_X0_clearWritten : GoodIn wsX0_commit (wsV RX0 61 RX0 yX0_clearWritten wsX0_clearWritten) := goodIn_app (goodIn_of _ (by decide +kernel)) ggX0_commit_X0_clearWritten
set_option maxRecDepth 20000 in
theorem ggX0_commit_X0_bringLogToDisk : GoodIn wsX0_commit wsX0_bringLogToDisk := goodIn_r _ [37, 20, 22, 38, 23, 24, 7, 25, 26, 27, 28, 29, 39, 40, 41, 42, 43, 44, 45, 46, 47, 48] (by decide +kernel) (by decide +kernel)
set_option maxRecDepth 20000 in
theorem gX0_commit_X0_bringLogToDisk : GoodIn wsX0_commit (wsV RX0 64 RX0 yX0_bringLogToDisk wsX0_bringLogToDisk) := goodIn_app (goodIn_of _ (by decide +kernel)) ggX0_commit_X0_bringLogToDisk
theorem dX0_commit_0 : decode cX0_commit 0 = .ok (.aload_n 0, 1) := by decide +kernel
theorem dX0_commit_1 : decode cX0_commit 1 = .ok (.getfield 26, 3) := by decide +kernel
theorem dX0_commit_4 : decode cX0_commit 4 = .ok (.ifCond .ne 5, 3) := by decide +kernel
theorem dX0_commit_7 : decode cX0_commit 7 = .ok (.iconst 0, 1) := by decide +kernel
theorem dX0_commit_8 : decode cX0_commit 8 = .ok (.ireturn, 1) := by decide +kernel
theorem dX0_commit_9 : decode cX0_commit 9 = .ok (.aload_n 0, 1) := by decide +kernel
theorem dX0_commit_10 : decode cX0_commit 10 = .ok (.invokevirtual 50, 3) := by decide +kernel
theorem dX0_commit_13 : decode cX0_commit 13 = .ok (.istore_n 1, 1) := by decide +kernel
theorem dX0_commit_14 : decode cX0_commit 14 = .ok (.aload_n 0, 1) := by decide +kernel
theorem dX0_commit_15 : decode cX0_commit 15 = .ok (.aload_n 0, 1) := by decide +kernel
theorem dX0_commit_16 : decode cX0_commit 16 = .ok (.invokevirtual 54, 3) := by decide +kernel
theorem dX0_commit_19 : decode cX0_commit 19 = .ok (.putfield 33, 3) := by decide +kernel
theorem dX0_commit_22 : decode cX0_commit 22 = .ok (.aload_n 0, 1) := by decide +kernel
theorem dX0_commit_23 : decode cX0_commit 23 = .ok (.iload_n 1, 1) := by decide +kernel
theorem dX0_commit_24 : decode cX0_commit 24 = .ok (.sipush 500, 3) := by decide +kernel
theorem dX0_commit_27 : decode cX0_commit 27 = .ok (.if_icmp .lt 7, 3) := by decide +kernel
theorem dX0_commit_30 : decode cX0_commit 30 = .ok (.iconst 1, 1) := by decide +kernel
theorem dX0_commit_31 : decode cX0_commit 31 = .ok (.goto 4, 3) := by decide +kernel
theorem dX0_commit_34 : decode cX0_commit 34 = .ok (.iconst 0, 1) := by decide +kernel
theorem dX0_commit_35 : decode cX0_commit 35 = .ok (.putfield 30, 3) := by decide +kernel
theorem dX0_commit_38 : decode cX0_commit 38 = .ok (.aload_n 0, 1) := by decide +kernel
theorem dX0_commit_39 : decode cX0_commit 39 = .ok (.aload_n 0, 1) := by decide +kernel
theorem dX0_commit_40 : decode cX0_commit 40 = .ok (.getfield 30, 3) := by decide +kernel
theorem dX0_commit_43 : decode cX0_commit 43 = .ok (.ifCond .eq 10, 3) := by decide +kernel
theorem dX0_commit_46 : decode cX0_commit 46 = .ok (.aload_n 0, 1) := by decide +kernel
theorem dX0_commit_47 : decode cX0_commit 47 = .ok (.getfield 33, 3) := by decide +kernel
theorem dX0_commit_50 : decode cX0_commit 50 = .ok (.goto 13, 3) := by decide +kernel
theorem dX0_commit_53 : decode cX0_commit 53 = .ok (.aload_n 0, 1) := by decide +kernel
theorem dX0_commit_54 : decode cX0_commit 54 = .ok (.getfield 33, 3) := by decide +kernel
theorem dX0_commit_57 : decode cX0_commit 57 = .ok (.iload_n 1, 1) := by decide +kernel
theorem dX0_commit_58 : decode cX0_commit 58 = .ok (.imul, 1) := by decide +kernel
theorem dX0_commit_59 : decode cX0_commit 59 = .ok (.sipush 500, 3) := by decide +kernel
theorem dX0_commit_62 : decode cX0_commit 62 = .ok (.idiv, 1) := by decide +kernel
theorem dX0_commit_63 : decode cX0_commit 63 = .ok (.invokevirtual 57, 3) := by decide +kernel
theorem dX0_commit_66 : decode cX0_commit 66 = .ok (.aload_n 0, 1) := by decide +kernel
theorem dX0_commit_67 : decode cX0_commit 67 = .ok (.invokevirtual 61, 3) := by decide +kernel
theorem dX0_commit_70 : decode cX0_commit 70 = .ok (.aload_n 0, 1) := by decide +kernel
theorem dX0_commit_71 : decode cX0_commit 71 = .ok (.getfield 30, 3) := by decide +kernel
theorem dX0_commit_74 : decode cX0_commit 74 = .ok (.ifCond .eq 21, 3) := by decide +kernel
theorem dX0_commit_77 : decode cX0_commit 77 = .ok (.aload_n 0, 1) := by decide +kernel
theorem dX0_commit_78 : decode cX0_commit 78 = .ok (.aload_n 0, 1) := by decide +kernel
theorem dX0_commit_79 : decode cX0_commit 79 = .ok (.getfield 33, 3) := by decide +kernel
theorem dX0_commit_82 : decode cX0_commit 82 = .ok (.iload_n 1, 1) := by decide +kernel
theorem dX0_commit_83 : decode cX0_commit 83 = .ok (.sipush 500, 3) := by decide +kernel
theorem dX0_commit_86 : decode cX0_commit 86 = .ok (.isub, 1) := by decide +kernel
theorem dX0_commit_87 : decode cX0_commit 87 = .ok (.imul, 1) := by decide +kernel
theorem dX0_commit_88 : decode cX0_commit 88 = .ok (.sipush 500, 3) := by decide +kernel
theorem dX0_commit_91 : decode cX0_commit 91 = .ok (.idiv, 1) := by decide +kernel
theorem dX0_commit_92 : decode cX0_commit 92 = .ok (.invokevirtual 64, 3) := by decide +kernel
theorem dX0_commit_95 : decode cX0_commit 95 = .ok (.aload_n 0, 1) := by decide +kernel
theorem dX0_commit_96 : decode cX0_commit 96 = .ok (.iload_n 1, 1) := by decide +kernel
theorem dX0_commit_97 : decode cX0_commit 97 = .ok (.sipush 1000, 3) := by decide +kernel
theorem dX0_commit_100 : decode cX0_commit 100 = .ok (.if_icmp .ne 7, 3) := by decide +kernel
theorem dX0_commit_103 : decode cX0_commit 103 = .ok (.iconst 1, 1) := by decide +kernel
theorem dX0_commit_104 : decode cX0_commit 104 = .ok (.goto 4, 3) := by decide +kernel
theorem dX0_commit_107 : decode cX0_commit 107 = .ok (.iconst 0, 1) := by decide +kernel
theorem dX0_commit_108 : decode cX0_commit 108 = .ok (.putfield 26, 3) := by decide +kernel
theorem dX0_commit_111 : decode cX0_commit 111 = .ok (.aload_n 0, 1) := by decide +kernel
theorem dX0_commit_112 : decode cX0_commit 112 = .ok (.getfield 26, 3) := by decide +kernel
theorem dX0_commit_115 : decode cX0_commit 115 = .ok (.ifCond .eq 8, 3) := by decide +kernel
theorem dX0_commit_118 : decode cX0_commit 118 = .ok (.aload_n 0, 1) := by decide +kernel
theorem dX0_commit_119 : decode cX0_commit 119 = .ok (.iconst 0, 1) := by decide +kernel
theorem dX0_commit_120 : decode cX0_commit 120 = .ok (.putfield 30, 3) := by decide +kernel
theorem dX0_commit_123 : decode cX0_commit 123 = .ok (.aload_n 0, 1) := by decide +kernel
theorem dX0_commit_124 : decode cX0_commit 124 = .ok (.getfield 26, 3) := by decide +kernel
theorem dX0_commit_127 : decode cX0_commit 127 = .ok (.ireturn, 1) := by decide +kernel
set_option maxRecDepth 20000 in
theorem ggX0_revert_X0_takeWorkFromDisk : GoodIn wsX0_revert wsX0_takeWorkFromDisk := goodIn_r _ [6, 7, 8, 9, 10, 11, 12, 13, 14, 15, 5, 16, 17, 18, 19, 20, 21, 22, 23, 24, 25, 26, 27] (by decide +kernel) (by decide +kernel)
set_option maxRecDepth 20000 in
theorem gX0_revert_X0_takeWorkFromDisk : GoodIn wsX0_revert (wsV RX0 67 RX0 yX0_takeWorkFromDisk wsX0_takeWorkFromDisk) := goodIn_app (goodIn_of _ (by decide +kernel)) ggX0_revert_X0_takeWorkFromDisk
theorem dX0_revert_0 : decode cX0_revert 0 = .ok (.aload_n 0, 1) := by decide +kernel
theorem dX0_revert_1 : decode cX0_revert 1 = .ok (.getfield 26, 3) := by decide +kernel
theorem dX0_revert_4 : decode cX0_revert 4 = .ok (.ifCond .ne 5, 3) := by decide +kernel
theorem dX0_revert_7 : decode cX0_revert 7 = .ok (.iconst 0, 1) := by decide +kernel
theorem dX0_revert_8 : decode cX0_revert 8 = .ok (.ireturn, 1) := by decide +kernel
theorem dX0_revert_9 : decode cX0_revert 9 = .ok (.aload_n 0, 1) := by decide +kernel
theorem dX0_revert_10 : decode cX0_revert 10 = .ok (.invokevirtual 67, 3) := by decide +kernel
theorem dX0_revert_13 : decode cX0_revert 13 = .ok (.iconst 1, 1) := by decide +kernel
theorem dX0_revert_14 : decode cX0_revert 14 = .ok (.ireturn, 1) := by decide +kernel
theorem dX0_cut_0 : decode cX0_cut 0 = .ok (.aload_n 0, 1) := by decide +kernel
theorem dX0_cut_1 : decode cX0_cut 1 = .ok (.getfield 26, 3) := by decide +kernel
theorem dX0_cut_4 : decode cX0_cut 4 = .ok (.ifCond .eq 26, 3) := by decide +kernel
theorem dX0_cut_7 : decode cX0_cut 7 = .ok (.iload_n 1, 1) := by decide +kernel
theorem dX0_cut_8 : decode cX0_cut 8 = .ok (.iconst 1, 1) := by decide +kernel
theorem dX0_cut_9 : decode cX0_cut 9 = .ok (.if_icmp .lt 21, 3) := by decide +kernel
theorem dX0_cut_12 : decode cX0_cut 12 = .ok (.iload_n 1, 1) := by decide +kernel
theorem dX0_cut_13 : decode cX0_cut 13 = .ok (.sipush 1000, 3) := by decide +kernel
theorem dX0_cut_16 : decode cX0_cut 16 = .ok (.if_icmp .gt 14, 3) := by decide +kernel
theorem dX0_cut_19 : decode cX0_cut 19 = .ok (.iload_n 2, 1) := by decide +kernel
theorem dX0_cut_20 : decode cX0_cut 20 = .ok (.ifCond .lt 10, 3) := by decide +kernel
theorem dX0_cut_23 : decode cX0_cut 23 = .ok (.iload_n 2, 1) := by decide +kernel
theorem dX0_cut_24 : decode cX0_cut 24 = .ok (.sipush 1000, 3) := by decide +kernel
theorem dX0_cut_27 : decode cX0_cut 27 = .ok (.if_icmp .lt 5, 3) := by decide +kernel
theorem dX0_cut_30 : decode cX0_cut 30 = .ok (.iconst 0, 1) := by decide +kernel
theorem dX0_cut_31 : decode cX0_cut 31 = .ok (.ireturn, 1) := by decide +kernel
theorem dX0_cut_32 : decode cX0_cut 32 = .ok (.aload_n 0, 1) := by decide +kernel
theorem dX0_cut_33 : decode cX0_cut 33 = .ok (.iload_n 1, 1) := by decide +kernel
theorem dX0_cut_34 : decode cX0_cut 34 = .ok (.putfield 37, 3) := by decide +kernel
theorem dX0_cut_37 : decode cX0_cut 37 = .ok (.aload_n 0, 1) := by decide +kernel
theorem dX0_cut_38 : decode cX0_cut 38 = .ok (.iload_n 2, 1) := by decide +kernel
theorem dX0_cut_39 : decode cX0_cut 39 = .ok (.putfield 40, 3) := by decide +kernel
theorem dX0_cut_42 : decode cX0_cut 42 = .ok (.iconst 1, 1) := by decide +kernel
theorem dX0_cut_43 : decode cX0_cut 43 = .ok (.ireturn, 1) := by decide +kernel
set_option maxRecDepth 20000 in
theorem ggX0_start_X0_bringLogToDisk : GoodIn wsX0_start wsX0_bringLogToDisk := goodIn_r _ [8, 9, 10, 11, 12, 13, 7, 14, 15, 16, 17, 18, 29, 30, 31, 32, 33, 34, 35, 36, 37, 38] (by decide +kernel) (by decide +kernel)
set_option maxRecDepth 20000 in
theorem gX0_start_X0_bringLogToDisk : GoodIn wsX0_start (wsV RX0 64 RX0 yX0_bringLogToDisk wsX0_bringLogToDisk) := goodIn_app (goodIn_of _ (by decide +kernel)) ggX0_start_X0_bringLogToDisk
set_option maxRecDepth 20000 in
theorem ggX0_start_X0_takeWorkFromDisk : GoodIn wsX0_start wsX0_takeWorkFromDisk := goodIn_r _ [22, 11, 23, 15, 16, 17, 18, 24, 25, 26, 7, 27, 28, 29, 30, 31, 32, 33, 34, 35, 36, 37, 38] (by decide +kernel) (by decide +kernel)
set_option maxRecDepth 20000 in
theorem gX0_start_X0_takeWorkFromDisk : GoodIn wsX0_start (wsV RX0 67 RX0 yX0_takeWorkFromDisk wsX0_takeWorkFromDisk) := goodIn_app (goodIn_of _ (by decide +kernel)) ggX0_start_X0_takeWorkFromDisk
theorem dX0_start_0 : decode cX0_start 0 = .ok (.aload_n 0, 1) := by decide +kernel
theorem dX0_start_1 : decode cX0_start 1 = .ok (.getfield 26, 3) := by decide +kernel
theorem dX0_start_4 : decode cX0_start 4 = .ok (.ifCond .ne 14, 3) := by decide +kernel
theorem dX0_start_7 : decode cX0_start 7 = .ok (.iload_n 1, 1) := by decide +kernel
theorem dX0_start_8 : decode cX0_start 8 = .ok (.ifCond .lt 10, 3) := by decide +kernel
theorem dX0_start_11 : decode cX0_start 11 = .ok (.iload_n 1, 1) := by decide +kernel
theorem dX0_start_12 : decode cX0_start 12 = .ok (.sipush 1000, 3) := by decide +kernel
theorem dX0_start_15 : decode cX0_start 15 = .ok (.if_icmp .le 5, 3) := by decide +kernel
theorem dX0_start_18 : decode cX0_start 18 = .ok (.iconst 0, 1) := by decide +kernel
theorem dX0_start_19 : decode cX0_start 19 = .ok (.ireturn, 1) := by decide +kernel
theorem dX0_start_20 : decode cX0_start 20 = .ok (.aload_n 0, 1) := by decide +kernel
theorem dX0_start_21 : decode cX0_start 21 = .ok (.getfield 30, 3) := by decide +kernel
theorem dX0_start_24 : decode cX0_start 24 = .ok (.ifCond .eq 17, 3) := by decide +kernel
theorem dX0_start_27 : decode cX0_start 27 = .ok (.aload_n 0, 1) := by decide +kernel
theorem dX0_start_28 : decode cX0_start 28 = .ok (.aload_n 0, 1) := by decide +kernel
theorem dX0_start_29 : decode cX0_start 29 = .ok (.getfield 33, 3) := by decide +kernel
theorem dX0_start_32 : decode cX0_start 32 = .ok (.iload_n 1, 1) := by decide +kernel
theorem dX0_start_33 : decode cX0_start 33 = .ok (.imul, 1) := by decide +kernel
theorem dX0_start_34 : decode cX0_start 34 = .ok (.sipush 1000, 3) := by decide +kernel
theorem dX0_start_37 : decode cX0_start 37 = .ok (.idiv, 1) := by decide +kernel
theorem dX0_start_38 : decode cX0_start 38 = .ok (.invokevirtual 64, 3) := by decide +kernel
theorem dX0_start_41 : decode cX0_start 41 = .ok (.iload_n 1, 1) := by decide +kernel
theorem dX0_start_42 : decode cX0_start 42 = .ok (.sipush 1000, 3) := by decide +kernel
theorem dX0_start_45 : decode cX0_start 45 = .ok (.if_icmp .ge 5, 3) := by decide +kernel
theorem dX0_start_48 : decode cX0_start 48 = .ok (.iconst 0, 1) := by decide +kernel
theorem dX0_start_49 : decode cX0_start 49 = .ok (.ireturn, 1) := by decide +kernel
theorem dX0_start_50 : decode cX0_start 50 = .ok (.aload_n 0, 1) := by decide +kernel
theorem dX0_start_51 : decode cX0_start 51 = .ok (.iconst 0, 1) := by decide +kernel
theorem dX0_start_52 : decode cX0_start 52 = .ok (.putfield 30, 3) := by decide +kernel
theorem dX0_start_55 : decode cX0_start 55 = .ok (.aload_n 0, 1) := by decide +kernel
theorem dX0_start_56 : decode cX0_start 56 = .ok (.iconst 1, 1) := by decide +kernel
theorem dX0_start_57 : decode cX0_start 57 = .ok (.putfield 26, 3) := by decide +kernel
theorem dX0_start_60 : decode cX0_start 60 = .ok (.aload_n 0, 1) := by decide +kernel
theorem dX0_start_61 : decode cX0_start 61 = .ok (.invokevirtual 67, 3) := by decide +kernel
theorem dX0_start_64 : decode cX0_start 64 = .ok (.iconst 1, 1) := by decide +kernel
theorem dX0_start_65 : decode cX0_start 65 = .ok (.ireturn, 1) := by decide +kernel
theorem dX0_state_0 : decode cX0_state 0 = .ok (.iload_n 1, 1) := by decide +kernel
theorem dX0_state_1 : decode cX0_state 1 = .ok (.tableswitch 58 0 2 #[27, 40, 53], 27) := by decide +kernel
theorem dX0_state_28 : decode cX0_state 28 = .ok (.aload_n 0, 1) := by decide +kernel
theorem dX0_state_29 : decode cX0_state 29 = .ok (.getfield 26, 3) := by decide +kernel
theorem dX0_state_32 : decode cX0_state 32 = .ok (.ifCond .eq 7, 3) := by decide +kernel
theorem dX0_state_35 : decode cX0_state 35 = .ok (.iconst 1, 1) := by decide +kernel
theorem dX0_state_36 : decode cX0_state 36 = .ok (.goto 4, 3) := by decide +kernel
theorem dX0_state_39 : decode cX0_state 39 = .ok (.iconst 0, 1) := by decide +kernel
theorem dX0_state_40 : decode cX0_state 40 = .ok (.ireturn, 1) := by decide +kernel
theorem dX0_state_41 : decode cX0_state 41 = .ok (.aload_n 0, 1) := by decide +kernel
theorem dX0_state_42 : decode cX0_state 42 = .ok (.getfield 30, 3) := by decide +kernel
theorem dX0_state_45 : decode cX0_state 45 = .ok (.ifCond .eq 7, 3) := by decide +kernel
theorem dX0_state_48 : decode cX0_state 48 = .ok (.iconst 1, 1) := by decide +kernel
theorem dX0_state_49 : decode cX0_state 49 = .ok (.goto 4, 3) := by decide +kernel
theorem dX0_state_52 : decode cX0_state 52 = .ok (.iconst 0, 1) := by decide +kernel
theorem dX0_state_53 : decode cX0_state 53 = .ok (.ireturn, 1) := by decide +kernel
theorem dX0_state_54 : decode cX0_state 54 = .ok (.aload_n 0, 1) := by decide +kernel
theorem dX0_state_55 : decode cX0_state 55 = .ok (.getfield 33, 3) := by decide +kernel
theorem dX0_state_58 : decode cX0_state 58 = .ok (.ireturn, 1) := by decide +kernel
theorem dX0_state_59 : decode cX0_state 59 = .ok (.iconst (-1), 1) := by decide +kernel
theorem dX0_state_60 : decode cX0_state 60 = .ok (.ireturn, 1) := by decide +kernel
theorem dX0_isBlock_0 : decode cX0_isBlock 0 = .ok (.iload_n 0, 1) := by decide +kernel
theorem dX0_isBlock_1 : decode cX0_isBlock 1 = .ok (.ifCond .lt 13, 3) := by decide +kernel
theorem dX0_isBlock_4 : decode cX0_isBlock 4 = .ok (.iload_n 0, 1) := by decide +kernel
theorem dX0_isBlock_5 : decode cX0_isBlock 5 = .ok (.bipush 24, 2) := by decide +kernel
theorem dX0_isBlock_7 : decode cX0_isBlock 7 = .ok (.if_icmp .ge 7, 3) := by decide +kernel
theorem dX0_isBlock_10 : decode cX0_isBlock 10 = .ok (.iconst 1, 1) := by decide +kernel
theorem dX0_isBlock_11 : decode cX0_isBlock 11 = .ok (.goto 4, 3) := by decide +kernel
theorem dX0_isBlock_14 : decode cX0_isBlock 14 = .ok (.iconst 0, 1) := by decide +kernel
theorem dX0_isBlock_15 : decode cX0_isBlock 15 = .ok (.ireturn, 1) := by decide +kernel
theorem dX0_isPlace_0 : decode cX0_isPlace 0 = .ok (.iload_n 0, 1) := by decide +kernel
theorem dX0_isPlace_1 : decode cX0_isPlace 1 = .ok (.ifCond .lt 13, 3) := by decide +kernel
theorem dX0_isPlace_4 : decode cX0_isPlace 4 = .ok (.iload_n 0, 1) := by decide +kernel
theorem dX0_isPlace_5 : decode cX0_isPlace 5 = .ok (.bipush 16, 2) := by decide +kernel
theorem dX0_isPlace_7 : decode cX0_isPlace 7 = .ok (.if_icmp .ge 7, 3) := by decide +kernel
theorem dX0_isPlace_10 : decode cX0_isPlace 10 = .ok (.iconst 1, 1) := by decide +kernel
theorem dX0_isPlace_11 : decode cX0_isPlace 11 = .ok (.goto 4, 3) := by decide +kernel
theorem dX0_isPlace_14 : decode cX0_isPlace 14 = .ok (.iconst 0, 1) := by decide +kernel
theorem dX0_isPlace_15 : decode cX0_isPlace 15 = .ok (.ireturn, 1) := by decide +kernel
theorem dX0_takeShareOfThisCommit_0 : decode cX0_takeShareOfThisCommit 0 = .ok (.aload_n 0, 1) := by decide +kernel
theorem dX0_takeShareOfThisCommit_1 : decode cX0_takeShareOfThisCommit 1 = .ok (.getfield 37, 3) := by decide +kernel
theorem dX0_takeShareOfThisCommit_4 : decode cX0_takeShareOfThisCommit 4 = .ok (.ifCond .ne 7, 3) := by decide +kernel
theorem dX0_takeShareOfThisCommit_7 : decode cX0_takeShareOfThisCommit 7 = .ok (.sipush 1000, 3) := by decide +kernel
theorem dX0_takeShareOfThisCommit_10 : decode cX0_takeShareOfThisCommit 10 = .ok (.ireturn, 1) := by decide +kernel
theorem dX0_takeShareOfThisCommit_11 : decode cX0_takeShareOfThisCommit 11 = .ok (.aload_n 0, 1) := by decide +kernel
theorem dX0_takeShareOfThisCommit_12 : decode cX0_takeShareOfThisCommit 12 = .ok (.dup, 1) := by decide +kernel
theorem dX0_takeShareOfThisCommit_13 : decode cX0_takeShareOfThisCommit 13 = .ok (.getfield 37, 3) := by decide +kernel
theorem dX0_takeShareOfThisCommit_16 : decode cX0_takeShareOfThisCommit 16 = .ok (.iconst 1, 1) := by decide +kernel
theorem dX0_takeShareOfThisCommit_17 : decode cX0_takeShareOfThisCommit 17 = .ok (.isub, 1) := by decide +kernel
theorem dX0_takeShareOfThisCommit_18 : decode cX0_takeShareOfThisCommit 18 = .ok (.putfield 37, 3) := by decide +kernel
theorem dX0_takeShareOfThisCommit_21 : decode cX0_takeShareOfThisCommit 21 = .ok (.aload_n 0, 1) := by decide +kernel
theorem dX0_takeShareOfThisCommit_22 : decode cX0_takeShareOfThisCommit 22 = .ok (.getfield 37, 3) := by decide +kernel
theorem dX0_takeShareOfThisCommit_25 : decode cX0_takeShareOfThisCommit 25 = .ok (.ifCond .ne 10, 3) := by decide +kernel
theorem dX0_takeShareOfThisCommit_28 : decode cX0_takeShareOfThisCommit 28 = .ok (.aload_n 0, 1) := by decide +kernel
theorem dX0_takeShareOfThisCommit_29 : decode cX0_takeShareOfThisCommit 29 = .ok (.getfield 40, 3) := by decide +kernel
theorem dX0_takeShareOfThisCommit_32 : decode cX0_takeShareOfThisCommit 32 = .ok (.goto 6, 3) := by decide +kernel
theorem dX0_takeShareOfThisCommit_35 : decode cX0_takeShareOfThisCommit 35 = .ok (.sipush 1000, 3) := by decide +kernel
theorem dX0_takeShareOfThisCommit_38 : decode cX0_takeShareOfThisCommit 38 = .ok (.ireturn, 1) := by decide +kernel
theorem dX0_countWritten_0 : decode cX0_countWritten 0 = .ok (.iconst 0, 1) := by decide +kernel
theorem dX0_countWritten_1 : decode cX0_countWritten 1 = .ok (.istore_n 1, 1) := by decide +kernel
theorem dX0_countWritten_2 : decode cX0_countWritten 2 = .ok (.iconst 0, 1) := by decide +kernel
theorem dX0_countWritten_3 : decode cX0_countWritten 3 = .ok (.istore_n 2, 1) := by decide +kernel
theorem dX0_countWritten_4 : decode cX0_countWritten 4 = .ok (.iload_n 2, 1) := by decide +kernel
theorem dX0_countWritten_5 : decode cX0_countWritten 5 = .ok (.bipush 24, 2) := by decide +kernel
theorem dX0_countWritten_7 : decode cX0_countWritten 7 = .ok (.if_icmp .ge 21, 3) := by decide +kernel
theorem dX0_countWritten_10 : decode cX0_countWritten 10 = .ok (.aload_n 0, 1) := by decide +kernel
theorem dX0_countWritten_11 : decode cX0_countWritten 11 = .ok (.getfield 19, 3) := by decide +kernel
theorem dX0_countWritten_14 : decode cX0_countWritten 14 = .ok (.iload_n 2, 1) := by decide +kernel
theorem dX0_countWritten_15 : decode cX0_countWritten 15 = .ok (.baload, 1) := by decide +kernel
theorem dX0_countWritten_16 : decode cX0_countWritten 16 = .ok (.ifCond .eq 6, 3) := by decide +kernel
theorem dX0_countWritten_19 : decode cX0_countWritten 19 = .ok (.iinc 1 1, 3) := by decide +kernel
theorem dX0_countWritten_22 : decode cX0_countWritten 22 = .ok (.iinc 2 1, 3) := by decide +kernel
theorem dX0_countWritten_25 : decode cX0_countWritten 25 = .ok (.goto (-21), 3) := by decide +kernel
theorem dX0_countWritten_28 : decode cX0_countWritten 28 = .ok (.iload_n 1, 1) := by decide +kernel
theorem dX0_countWritten_29 : decode cX0_countWritten 29 = .ok (.ireturn, 1) := by decide +kernel
set_option maxRecDepth 20000 in
theorem ggX0_bringToLog_X0_copyBlock : GoodIn wsX0_bringToLog wsX0_copyBlock := goodIn_r _ [8, 9, 10, 11, 12] (by decide +kernel) (by decide +kernel)
set_option maxRecDepth 20000 in
theorem gX0_bringToLog_X0_copyBlock : GoodIn wsX0_bringToLog (va_wsS RX0 70 yX0_copyBlock wsX0_copyBlock) := goodIn_app (goodIn_of _ (by decide +kernel)) ggX0_bringToLog_X0_copyBlock
theorem dX0_bringToLog_0 : decode cX0_bringToLog 0 = .ok (.iconst 0, 1) := by decide +kernel
theorem dX0_bringToLog_1 : decode cX0_bringToLog 1 = .ok (.istore_n 2, 1) := by decide +kernel
theorem dX0_bringToLog_2 : decode cX0_bringToLog 2 = .ok (.iconst 0, 1) := by decide +kernel
theorem dX0_bringToLog_3 : decode cX0_bringToLog 3 = .ok (.istore_n 3, 1) := by decide +kernel
theorem dX0_bringToLog_4 : decode cX0_bringToLog 4 = .ok (.iload_n 3, 1) := by decide +kernel
theorem dX0_bringToLog_5 : decode cX0_bringToLog 5 = .ok (.bipush 24, 2) := by decide +kernel
theorem dX0_bringToLog_7 : decode cX0_bringToLog 7 = .ok (.if_icmp .ge 58, 3) := by decide +kernel
theorem dX0_bringToLog_10 : decode cX0_bringToLog 10 = .ok (.aload_n 0, 1) := by decide +kernel
theorem dX0_bringToLog_11 : decode cX0_bringToLog 11 = .ok (.getfield 23, 3) := by decide +kernel
theorem dX0_bringToLog_14 : decode cX0_bringToLog 14 = .ok (.iload_n 3, 1) := by decide +kernel
theorem dX0_bringToLog_15 : decode cX0_bringToLog 15 = .ok (.aload_n 0, 1) := by decide +kernel
theorem dX0_bringToLog_16 : decode cX0_bringToLog 16 = .ok (.getfield 19, 3) := by decide +kernel
theorem dX0_bringToLog_19 : decode cX0_bringToLog 19 = .ok (.iload_n 3, 1) := by decide +kernel
theorem dX0_bringToLog_20 : decode cX0_bringToLog 20 = .ok (.baload, 1) := by decide +kernel
theorem dX0_bringToLog_21 : decode cX0_bringToLog 21 = .ok (.ifCond .eq 12, 3) := by decide +kernel
theorem dX0_bringToLog_24 : decode cX0_bringToLog 24 = .ok (.iload_n 2, 1) := by decide +kernel
theorem dX0_bringToLog_25 : decode cX0_bringToLog 25 = .ok (.iload_n 1, 1) := by decide +kernel
theorem dX0_bringToLog_26 : decode cX0_bringToLog 26 = .ok (.if_icmp .ge 7, 3) := by decide +kernel
theorem dX0_bringToLog_29 : decode cX0_bringToLog 29 = .ok (.iconst 1, 1) := by decide +kernel
theorem dX0_bringToLog_30 : decode cX0_bringToLog 30 = .ok (.goto 4, 3) := by decide +kernel
theorem dX0_bringToLog_33 : decode cX0_bringToLog 33 = .ok (.iconst 0, 1) := by decide +kernel
theorem dX0_bringToLog_34 : decode cX0_bringToLog 34 = .ok (.bastore, 1) := by decide +kernel
theorem dX0_bringToLog_35 : decode cX0_bringToLog 35 = .ok (.aload_n 0, 1) := by decide +kernel
theorem dX0_bringToLog_36 : decode cX0_bringToLog 36 = .ok (.getfield 23, 3) := by decide +kernel
theorem dX0_bringToLog_39 : decode cX0_bringToLog 39 = .ok (.iload_n 3, 1) := by decide +kernel
theorem dX0_bringToLog_40 : decode cX0_bringToLog 40 = .ok (.baload, 1) := by decide +kernel
theorem dX0_bringToLog_41 : decode cX0_bringToLog 41 = .ok (.ifCond .eq 18, 3) := by decide +kernel
theorem dX0_bringToLog_44 : decode cX0_bringToLog 44 = .ok (.aload_n 0, 1) := by decide +kernel
theorem dX0_bringToLog_45 : decode cX0_bringToLog 45 = .ok (.getfield 9, 3) := by decide +kernel
theorem dX0_bringToLog_48 : decode cX0_bringToLog 48 = .ok (.aload_n 0, 1) := by decide +kernel
theorem dX0_bringToLog_49 : decode cX0_bringToLog 49 = .ok (.getfield 16, 3) := by decide +kernel
theorem dX0_bringToLog_52 : decode cX0_bringToLog 52 = .ok (.iload_n 3, 1) := by decide +kernel
theorem dX0_bringToLog_53 : decode cX0_bringToLog 53 = .ok (.invokestatic 70, 3) := by decide +kernel
theorem dX0_bringToLog_56 : decode cX0_bringToLog 56 = .ok (.iinc 2 1, 3) := by decide +kernel
theorem dX0_bringToLog_59 : decode cX0_bringToLog 59 = .ok (.iinc 3 1, 3) := by decide +kernel
theorem dX0_bringToLog_62 : decode cX0_bringToLog 62 = .ok (.goto (-58), 3) := by decide +kernel
theorem dX0_bringToLog_65 : decode cX0_bringToLog 65 = .ok (.return_, 1) := by decide +kernel
set_option maxRecDepth 20000 in
theorem ggX0_bringLogToDisk_X0_copyBlock : GoodIn wsX0_bringLogToDisk wsX0_copyBlock := goodIn_r _ [7, 8, 9, 10, 11] (by decide +kernel) (by decide +kernel)
set_option maxRecDepth 20000 in
theorem gX0_bringLogToDisk_X0_copyBlock : GoodIn wsX0_bringLogToDisk (va_wsS RX0 70 yX0_copyBlock wsX0_copyBlock) := goodIn_app (goodIn_of _ (by decide +kernel)) ggX0_bringLogToDisk_X0_copyBlock
theorem dX0_bringLogToDisk_0 : decode cX0_bringLogToDisk 0 = .ok (.iconst 0, 1) := by decide +kernel
theorem dX0_bringLogToDisk_1 : decode cX0_bringLogToDisk 1 = .ok (.istore_n 2, 1) := by decide +kernel
theorem dX0_bringLogToDisk_2 : decode cX0_bringLogToDisk 2 = .ok (.iconst 0, 1) := by decide +kernel
theorem dX0_bringLogToDisk_3 : decode cX0_bringLogToDisk 3 = .ok (.istore_n 3, 1) := by decide +kernel
theorem dX0_bringLogToDisk_4 : decode cX0_bringLogToDisk 4 = .ok (.iload_n 3, 1) := by decide +kernel
theorem dX0_bringLogToDisk_5 : decode cX0_bringLogToDisk 5 = .ok (.bipush 24, 2) := by decide +kernel
theorem dX0_bringLogToDisk_7 : decode cX0_bringLogToDisk 7 = .ok (.if_icmp .ge 38, 3) := by decide +kernel
theorem dX0_bringLogToDisk_10 : decode cX0_bringLogToDisk 10 = .ok (.iload_n 2, 1) := by decide +kernel
theorem dX0_bringLogToDisk_11 : decode cX0_bringLogToDisk 11 = .ok (.iload_n 1, 1) := by decide +kernel
theorem dX0_bringLogToDisk_12 : decode cX0_bringLogToDisk 12 = .ok (.if_icmp .ge 33, 3) := by decide +kernel
theorem dX0_bringLogToDisk_15 : decode cX0_bringLogToDisk 15 = .ok (.aload_n 0, 1) := by decide +kernel
theorem dX0_bringLogToDisk_16 : decode cX0_bringLogToDisk 16 = .ok (.getfield 23, 3) := by decide +kernel
theorem dX0_bringLogToDisk_19 : decode cX0_bringLogToDisk 19 = .ok (.iload_n 3, 1) := by decide +kernel
theorem dX0_bringLogToDisk_20 : decode cX0_bringLogToDisk 20 = .ok (.baload, 1) := by decide +kernel
theorem dX0_bringLogToDisk_21 : decode cX0_bringLogToDisk 21 = .ok (.ifCond .eq 18, 3) := by decide +kernel
theorem dX0_bringLogToDisk_24 : decode cX0_bringLogToDisk 24 = .ok (.aload_n 0, 1) := by decide +kernel
theorem dX0_bringLogToDisk_25 : decode cX0_bringLogToDisk 25 = .ok (.getfield 16, 3) := by decide +kernel
theorem dX0_bringLogToDisk_28 : decode cX0_bringLogToDisk 28 = .ok (.aload_n 0, 1) := by decide +kernel
theorem dX0_bringLogToDisk_29 : decode cX0_bringLogToDisk 29 = .ok (.getfield 13, 3) := by decide +kernel
theorem dX0_bringLogToDisk_32 : decode cX0_bringLogToDisk 32 = .ok (.iload_n 3, 1) := by decide +kernel
theorem dX0_bringLogToDisk_33 : decode cX0_bringLogToDisk 33 = .ok (.invokestatic 70, 3) := by decide +kernel
theorem dX0_bringLogToDisk_36 : decode cX0_bringLogToDisk 36 = .ok (.iinc 2 1, 3) := by decide +kernel
theorem dX0_bringLogToDisk_39 : decode cX0_bringLogToDisk 39 = .ok (.iinc 3 1, 3) := by decide +kernel
theorem dX0_bringLogToDisk_42 : decode cX0_bringLogToDisk 42 = .ok (.goto (-38), 3) := by decide +kernel
theorem dX0_bringLogToDisk_45 : decode cX0_bringLogToDisk 45 = .ok (.return_, 1) := by decide +kernel
set_option maxRecDepth 20000 in
theorem ggX0_takeWorkFromDisk_X0_clearWritten : GoodIn wsX0_takeWorkFromDisk wsX0_clearWritten := goodIn_r _ [11, 12, 13, 14, 15, 16, 17, 18, 19, 20, 21, 22] (by decide +kernel) (by decide +kernel)
set_option maxRecDepth 20000 in
theorem gX0_takeWorkFromDisk_X0_clearWritten : GoodIn wsX0_takeWorkFromDisk (wsV RX0 61 RX0 yX0_clearWritten wsX0_clearWritten) := goodIn_app (goodIn_of _ (by decide +kernel)) ggX0_takeWorkFromDisk_X0_clearWritten
theorem dX0_takeWorkFromDisk_0 : decode cX0_takeWorkFromDisk 0 = .ok (.aload_n 0, 1) := by decide +kernel
theorem dX0_takeWorkFromDisk_1 : decode cX0_takeWorkFromDisk 1 = .ok (.getfield 13, 3) := by decide +kernel
theorem dX0_takeWorkFromDisk_4 : decode cX0_takeWorkFromDisk 4 = .ok (.iconst 0, 1) := by decide +kernel
theorem dX0_takeWorkFromDisk_5 : decode cX0_takeWorkFromDisk 5 = .ok (.aload_n 0, 1) := by decide +kernel
theorem dX0_takeWorkFromDisk_6 : decode cX0_takeWorkFromDisk 6 = .ok (.getfield 9, 3) := by decide +kernel
theorem dX0_takeWorkFromDisk_9 : decode cX0_takeWorkFromDisk 9 = .ok (.iconst 0, 1) := by decide +kernel
theorem dX0_takeWorkFromDisk_10 : decode cX0_takeWorkFromDisk 10 = .ok (.sipush 384, 3) := by decide +kernel
theorem dX0_takeWorkFromDisk_13 : decode cX0_takeWorkFromDisk 13 = .ok (.invokestatic 74, 3) := by decide +kernel
theorem dX0_takeWorkFromDisk_16 : decode cX0_takeWorkFromDisk 16 = .ok (.aload_n 0, 1) := by decide +kernel
theorem dX0_takeWorkFromDisk_17 : decode cX0_takeWorkFromDisk 17 = .ok (.invokevirtual 61, 3) := by decide +kernel
theorem dX0_takeWorkFromDisk_20 : decode cX0_takeWorkFromDisk 20 = .ok (.return_, 1) := by decide +kernel
theorem dX0_clearWritten_0 : decode cX0_clearWritten 0 = .ok (.iconst 0, 1) := by decide +kernel
theorem dX0_clearWritten_1 : decode cX0_clearWritten 1 = .ok (.istore_n 1, 1) := by decide +kernel
theorem dX0_clearWritten_2 : decode cX0_clearWritten 2 = .ok (.iload_n 1, 1) := by decide +kernel
theorem dX0_clearWritten_3 : decode cX0_clearWritten 3 = .ok (.bipush 24, 2) := by decide +kernel
theorem dX0_clearWritten_5 : decode cX0_clearWritten 5 = .ok (.if_icmp .ge 16, 3) := by decide +kernel
theorem dX0_clearWritten_8 : decode cX0_clearWritten 8 = .ok (.aload_n 0, 1) := by decide +kernel
theorem dX0_clearWritten_9 : decode cX0_clearWritten 9 = .ok (.getfield 19, 3) := by decide +kernel
theorem dX0_clearWritten_12 : decode cX0_clearWritten 12 = .ok (.iload_n 1, 1) := by decide +kernel
theorem dX0_clearWritten_13 : decode cX0_clearWritten 13 = .ok (.iconst 0, 1) := by decide +kernel
theorem dX0_clearWritten_14 : decode cX0_clearWritten 14 = .ok (.bastore, 1) := by decide +kernel
theorem dX0_clearWritten_15 : decode cX0_clearWritten 15 = .ok (.iinc 1 1, 3) := by decide +kernel
theorem dX0_clearWritten_18 : decode cX0_clearWritten 18 = .ok (.goto (-16), 3) := by decide +kernel
theorem dX0_clearWritten_21 : decode cX0_clearWritten 21 = .ok (.return_, 1) := by decide +kernel
theorem dX0_copyBlock_0 : decode cX0_copyBlock 0 = .ok (.aload_n 0, 1) := by decide +kernel
theorem dX0_copyBlock_1 : decode cX0_copyBlock 1 = .ok (.iload_n 2, 1) := by decide +kernel
theorem dX0_copyBlock_2 : decode cX0_copyBlock 2 = .ok (.bipush 16, 2) := by decide +kernel
theorem dX0_copyBlock_4 : decode cX0_copyBlock 4 = .ok (.imul, 1) := by decide +kernel
theorem dX0_copyBlock_5 : decode cX0_copyBlock 5 = .ok (.aload_n 1, 1) := by decide +kernel
theorem dX0_copyBlock_6 : decode cX0_copyBlock 6 = .ok (.iload_n 2, 1) := by decide +kernel
theorem dX0_copyBlock_7 : decode cX0_copyBlock 7 = .ok (.bipush 16, 2) := by decide +kernel
theorem dX0_copyBlock_9 : decode cX0_copyBlock 9 = .ok (.imul, 1) := by decide +kernel
theorem dX0_copyBlock_10 : decode cX0_copyBlock 10 = .ok (.bipush 16, 2) := by decide +kernel
theorem dX0_copyBlock_12 : decode cX0_copyBlock 12 = .ok (.invokestatic 74, 3) := by decide +kernel
theorem dX0_copyBlock_15 : decode cX0_copyBlock 15 = .ok (.return_, 1) := by decide +kernel
theorem dX1_init_0 : decode cX1_init 0 = .ok (.aload_n 0, 1) := by decide +kernel
theorem dX1_init_1 : decode cX1_init 1 = .ok (.invokespecial 1, 3) := by decide +kernel
theorem dX1_init_4 : decode cX1_init 4 = .ok (.aload_n 0, 1) := by decide +kernel
theorem dX1_init_5 : decode cX1_init 5 = .ok (.sipush 384, 3) := by decide +kernel
theorem dX1_init_8 : decode cX1_init 8 = .ok (.newarray .byte, 2) := by decide +kernel
theorem dX1_init_10 : decode cX1_init 10 = .ok (.putfield 7, 3) := by decide +kernel
theorem dX1_init_13 : decode cX1_init 13 = .ok (.aload_n 0, 1) := by decide +kernel
theorem dX1_init_14 : decode cX1_init 14 = .ok (.sipush 384, 3) := by decide +kernel
theorem dX1_init_17 : decode cX1_init 17 = .ok (.newarray .byte, 2) := by decide +kernel
theorem dX1_init_19 : decode cX1_init 19 = .ok (.putfield 13, 3) := by decide +kernel
theorem dX1_init_22 : decode cX1_init 22 = .ok (.aload_n 0, 1) := by decide +kernel
theorem dX1_init_23 : decode cX1_init 23 = .ok (.sipush 384, 3) := by decide +kernel
theorem dX1_init_26 : decode cX1_init 26 = .ok (.newarray .byte, 2) := by decide +kernel
theorem dX1_init_28 : decode cX1_init 28 = .ok (.putfield 16, 3) := by decide +kernel
theorem dX1_init_31 : decode cX1_init 31 = .ok (.aload_n 0, 1) := by decide +kernel
theorem dX1_init_32 : decode cX1_init 32 = .ok (.bipush 24, 2) := by decide +kernel
theorem dX1_init_34 : decode cX1_init 34 = .ok (.newarray .boolean, 2) := by decide +kernel
theorem dX1_init_36 : decode cX1_init 36 = .ok (.putfield 19, 3) := by decide +kernel
theorem dX1_init_39 : decode cX1_init 39 = .ok (.aload_n 0, 1) := by decide +kernel
theorem dX1_init_40 : decode cX1_init 40 = .ok (.bipush 24, 2) := by decide +kernel
theorem dX1_init_42 : decode cX1_init 42 = .ok (.newarray .boolean, 2) := by decide +kernel
theorem dX1_init_44 : decode cX1_init 44 = .ok (.putfield 23, 3) := by decide +kernel
theorem dX1_init_47 : decode cX1_init 47 = .ok (.return_, 1) := by decide +kernel
theorem dX1_in_0 : decode cX1_in 0 = .ok (.iload_n 0, 1) := by decide +kernel
theorem dX1_in_1 : decode cX1_in 1 = .ok (.iload_n 1, 1) := by decide +kernel
theorem dX1_in_2 : decode cX1_in 2 = .ok (.if_icmp .lt 12, 3) := by decide +kernel
theorem dX1_in_5 : decode cX1_in 5 = .ok (.iload_n 0, 1) := by decide +kernel
theorem dX1_in_6 : decode cX1_in 6 = .ok (.iload_n 2, 1) := by decide +kernel
theorem dX1_in_7 : decode cX1_in 7 = .ok (.if_icmp .gt 7, 3) := by decide +kernel
theorem dX1_in_10 : decode cX1_in 10 = .ok (.iconst 1, 1) := by decide +kernel
theorem dX1_in_11 : decode cX1_in 11 = .ok (.goto 4, 3) := by decide +kernel
theorem dX1_in_14 : decode cX1_in 14 = .ok (.iconst 0, 1) := by decide +kernel
theorem dX1_in_15 : decode cX1_in 15 = .ok (.ireturn, 1) := by decide +kernel
set_option maxRecDepth 20000 in
theorem ggX1_isPlace_X1_in : GoodIn wsX1_isPlace wsX1_in := goodIn_r _ [4] (by decide +kernel) (by decide +kernel)
set_option maxRecDepth 20000 in
theorem gX1_isPlace_X1_in : GoodIn wsX1_isPlace (va_wsS RX1 26 yX1_in wsX1_in) := goodIn_app (goodIn_of _ (by decide +kernel)) ggX1_isPlace_X1_in
theorem dX1_isPlace_0 : decode cX1_isPlace 0 = .ok (.iload_n 0, 1) := by decide +kernel
theorem dX1_isPlace_1 : decode cX1_isPlace 1 = .ok (.iconst 0, 1) := by decide +kernel
theorem dX1_isPlace_2 : decode cX1_isPlace 2 = .ok (.bipush 23, 2) := by decide +kernel
theorem dX1_isPlace_4 : decode cX1_isPlace 4 = .ok (.invokestatic 26, 3) := by decide +kernel
theorem dX1_isPlace_7 : decode cX1_isPlace 7 = .ok (.ifCond .eq 17, 3) := by decide +kernel
theorem dX1_isPlace_10 : decode cX1_isPlace 10 = .ok (.iload_n 1, 1) := by decide +kernel
theorem dX1_isPlace_11 : decode cX1_isPlace 11 = .ok (.iconst 0, 1) := by decide +kernel
theorem dX1_isPlace_12 : decode cX1_isPlace 12 = .ok (.bipush 15, 2) := by decide +kernel
theorem dX1_isPlace_14 : decode cX1_isPlace 14 = .ok (.invokestatic 26, 3) := by decide +kernel
theorem dX1_isPlace_17 : decode cX1_isPlace 17 = .ok (.ifCond .eq 7, 3) := by decide +kernel
theorem dX1_isPlace_20 : decode cX1_isPlace 20 = .ok (.iconst 1, 1) := by decide +kernel
theorem dX1_isPlace_21 : decode cX1_isPlace 21 = .ok (.goto 4, 3) := by decide +kernel
theorem dX1_isPlace_24 : decode cX1_isPlace 24 = .ok (.iconst 0, 1) := by decide +kernel
theorem dX1_isPlace_25 : decode cX1_isPlace 25 = .ok (.ireturn, 1) := by decide +kernel
set_option maxRecDepth 20000 in
theorem ggX1_write_X1_isPlace : GoodIn wsX1_write wsX1_isPlace := goodIn_r _ [7, 8, 9, 6, 10] (by decide +kernel) (by decide +kernel)
set_option maxRecDepth 20000 in
theorem gX1_write_X1_isPlace : GoodIn wsX1_write (va_wsS RX1 34 yX1_isPlace wsX1_isPlace) := goodIn_app (goodIn_of _ (by decide +kernel)) ggX1_write_X1_isPlace
theorem dX1_write_0 : decode cX1_write 0 = .ok (.aload_n 0, 1) := by decide +kernel
theorem dX1_write_1 : decode cX1_write 1 = .ok (.getfield 30, 3) := by decide +kernel
theorem dX1_write_4 : decode cX1_write 4 = .ok (.ifCond .ne 11, 3) := by decide +kernel
theorem dX1_write_7 : decode cX1_write 7 = .ok (.iload_n 1, 1) := by decide +kernel
theorem dX1_write_8 : decode cX1_write 8 = .ok (.iload_n 2, 1) := by decide +kernel
theorem dX1_write_9 : decode cX1_write 9 = .ok (.invokestatic 34, 3) := by decide +kernel
theorem dX1_write_12 : decode cX1_write 12 = .ok (.ifCond .ne 5, 3) := by decide +kernel
theorem dX1_write_15 : decode cX1_write 15 = .ok (.iconst 0, 1) := by decide +kernel
theorem dX1_write_16 : decode cX1_write 16 = .ok (.ireturn, 1) := by decide +kernel
theorem dX1_write_17 : decode cX1_write 17 = .ok (.aload_n 0, 1) := by decide +kernel
theorem dX1_write_18 : decode cX1_write 18 = .ok (.getfield 7, 3) := by decide +kernel
theorem dX1_write_21 : decode cX1_write 21 = .ok (.bipush 16, 2) := by decide +kernel
theorem dX1_write_23 : decode cX1_write 23 = .ok (.iload_n 1, 1) := by decide +kernel
theorem dX1_write_24 : decode cX1_write 24 = .ok (.imul, 1) := by decide +kernel
theorem dX1_write_25 : decode cX1_write 25 = .ok (.iload_n 2, 1) := by decide +kernel
theorem dX1_write_26 : decode cX1_write 26 = .ok (.iadd, 1) := by decide +kernel
theorem dX1_write_27 : decode cX1_write 27 = .ok (.iload_n 3, 1) := by decide +kernel
theorem dX1_write_28 : decode cX1_write 28 = .ok (.i2b, 1) := by decide +kernel
theorem dX1_write_29 : decode cX1_write 29 = .ok (.bastore, 1) := by decide +kernel
theorem dX1_write_30 : decode cX1_write 30 = .ok (.aload_n 0, 1) := by decide +kernel
theorem dX1_write_31 : decode cX1_write 31 = .ok (.getfield 19, 3) := by decide +kernel
theorem dX1_write_34 : decode cX1_write 34 = .ok (.iload_n 1, 1) := by decide +kernel
theorem dX1_write_35 : decode cX1_write 35 = .ok (.iconst 1, 1) := by decide +kernel
theorem dX1_write_36 : decode cX1_write 36 = .ok (.bastore, 1) := by decide +kernel
theorem dX1_write_37 : decode cX1_write 37 = .ok (.iconst 1, 1) := by decide +kernel
theorem dX1_write_38 : decode cX1_write 38 = .ok (.ireturn, 1) := by decide +kernel
set_option maxRecDepth 20000 in
theorem ggX1_read_X1_isPlace : GoodIn wsX1_read wsX1_isPlace := goodIn_r _ [6, 7, 8, 5, 9] (by decide +kernel) (by decide +kernel)
set_option maxRecDepth 20000 in
theorem gX1_read_X1_isPlace : GoodIn wsX1_read (va_wsS RX1 34 yX1_isPlace wsX1_isPlace) := goodIn_app (goodIn_of _ (by decide +kernel)) ggX1_read_X1_isPlace
theorem dX1_read_0 : decode cX1_read 0 = .ok (.aload_n 0, 1) := by decide +kernel
theorem dX1_read_1 : decode cX1_read 1 = .ok (.getfield 30, 3) := by decide +kernel
theorem dX1_read_4 : decode cX1_read 4 = .ok (.ifCond .ne 11, 3) := by decide +kernel
theorem dX1_read_7 : decode cX1_read 7 = .ok (.iload_n 1, 1) := by decide +kernel
theorem dX1_read_8 : decode cX1_read 8 = .ok (.iload_n 2, 1) := by decide +kernel
theorem dX1_read_9 : decode cX1_read 9 = .ok (.invokestatic 34, 3) := by decide +kernel
theorem dX1_read_12 : decode cX1_read 12 = .ok (.ifCond .ne 7, 3) := by decide +kernel
theorem dX1_read_15 : decode cX1_read 15 = .ok (.iconst (-1), 1) := by decide +kernel
theorem dX1_read_16 : decode cX1_read 16 = .ok (.goto 18, 3) := by decide +kernel
theorem dX1_read_19 : decode cX1_read 19 = .ok (.aload_n 0, 1) := by decide +kernel
theorem dX1_read_20 : decode cX1_read 20 = .ok (.getfield 7, 3) := by decide +kernel
theorem dX1_read_23 : decode cX1_read 23 = .ok (.bipush 16, 2) := by decide +kernel
theorem dX1_read_25 : decode cX1_read 25 = .ok (.iload_n 1, 1) := by decide +kernel
theorem dX1_read_26 : decode cX1_read 26 = .ok (.imul, 1) := by decide +kernel
theorem dX1_read_27 : decode cX1_read 27 = .ok (.iload_n 2, 1) := by decide +kernel
theorem dX1_read_28 : decode cX1_read 28 = .ok (.iadd, 1) := by decide +kernel
theorem dX1_read_29 : decode cX1_read 29 = .ok (.baload, 1) := by decide +kernel
theorem dX1_read_30 : decode cX1_read 30 = .ok (.sipush 255, 3) := by decide +kernel
theorem dX1_read_33 : decode cX1_read 33 = .ok (.iand, 1) := by decide +kernel
theorem dX1_read_34 : decode cX1_read 34 = .ok (.ireturn, 1) := by decide +kernel
set_option maxRecDepth 20000 in
theorem ggX1_disk_X1_isPlace : GoodIn wsX1_disk wsX1_isPlace := goodIn_r _ [5, 6, 7, 4, 8] (by decide +kernel) (by decide +kernel)
set_option maxRecDepth 20000 in
theorem gX1_disk_X1_isPlace : GoodIn wsX1_disk (va_wsS RX1 34 yX1_isPlace wsX1_isPlace) := goodIn_app (goodIn_of _ (by decide +kernel)) ggX1_disk_X1_isPlace
theorem dX1_disk_0 : decode cX1_disk 0 = .ok (.iload_n 1, 1) := by decide +kernel
theorem dX1_disk_1 : decode cX1_disk 1 = .ok (.iload_n 2, 1) := by decide +kernel
theorem dX1_disk_2 : decode cX1_disk 2 = .ok (.invokestatic 34, 3) := by decide +kernel
theorem dX1_disk_5 : decode cX1_disk 5 = .ok (.ifCond .eq 21, 3) := by decide +kernel
theorem dX1_disk_8 : decode cX1_disk 8 = .ok (.aload_n 0, 1) := by decide +kernel
theorem dX1_disk_9 : decode cX1_disk 9 = .ok (.getfield 13, 3) := by decide +kernel
theorem dX1_disk_12 : decode cX1_disk 12 = .ok (.bipush 16, 2) := by decide +kernel
theorem dX1_disk_14 : decode cX1_disk 14 = .ok (.iload_n 1, 1) := by decide +kernel
theorem dX1_disk_15 : decode cX1_disk 15 = .ok (.imul, 1) := by decide +kernel
theorem dX1_disk_16 : decode cX1_disk 16 = .ok (.iload_n 2, 1) := by decide +kernel
theorem dX1_disk_17 : decode cX1_disk 17 = .ok (.iadd, 1) := by decide +kernel
theorem dX1_disk_18 : decode cX1_disk 18 = .ok (.baload, 1) := by decide +kernel
theorem dX1_disk_19 : decode cX1_disk 19 = .ok (.sipush 255, 3) := by decide +kernel
theorem dX1_disk_22 : decode cX1_disk 22 = .ok (.iand, 1) := by decide +kernel
theorem dX1_disk_23 : decode cX1_disk 23 = .ok (.goto 4, 3) := by decide +kernel
theorem dX1_disk_26 : decode cX1_disk 26 = .ok (.iconst (-1), 1) := by decide +kernel
theorem dX1_disk_27 : decode cX1_disk 27 = .ok (.ireturn, 1) := by decide +kernel
set_option maxRecDepth 20000 in
theorem ggX1_dirty_X1_in : GoodIn wsX1_dirty wsX1_in := goodIn_r _ [6] (by decide +kernel) (by decide +kernel)
set_option maxRecDepth 20000 in
theorem gX1_dirty_X1_in : GoodIn wsX1_dirty (va_wsS RX1 26 yX1_in wsX1_in) := goodIn_app (goodIn_of _ (by decide +kernel)) ggX1_dirty_X1_in
theorem dX1_dirty_0 : decode cX1_dirty 0 = .ok (.aload_n 0, 1) := by decide +kernel
theorem dX1_dirty_1 : decode cX1_dirty 1 = .ok (.getfield 30, 3) := by decide +kernel
theorem dX1_dirty_4 : decode cX1_dirty 4 = .ok (.ifCond .ne 26, 3) := by decide +kernel
theorem dX1_dirty_7 : decode cX1_dirty 7 = .ok (.iload_n 1, 1) := by decide +kernel
theorem dX1_dirty_8 : decode cX1_dirty 8 = .ok (.iconst 0, 1) := by decide +kernel
theorem dX1_dirty_9 : decode cX1_dirty 9 = .ok (.bipush 23, 2) := by decide +kernel
theorem dX1_dirty_11 : decode cX1_dirty 11 = .ok (.invokestatic 26, 3) := by decide +kernel
theorem dX1_dirty_14 : decode cX1_dirty 14 = .ok (.ifCond .eq 16, 3) := by decide +kernel
theorem dX1_dirty_17 : decode cX1_dirty 17 = .ok (.aload_n 0, 1) := by decide +kernel
theorem dX1_dirty_18 : decode cX1_dirty 18 = .ok (.getfield 19, 3) := by decide +kernel
theorem dX1_dirty_21 : decode cX1_dirty 21 = .ok (.iload_n 1, 1) := by decide +kernel
theorem dX1_dirty_22 : decode cX1_dirty 22 = .ok (.baload, 1) := by decide +kernel
theorem dX1_dirty_23 : decode cX1_dirty 23 = .ok (.ifCond .eq 7, 3) := by decide +kernel
theorem dX1_dirty_26 : decode cX1_dirty 26 = .ok (.iconst 1, 1) := by decide +kernel
theorem dX1_dirty_27 : decode cX1_dirty 27 = .ok (.goto 4, 3) := by decide +kernel
theorem dX1_dirty_30 : decode cX1_dirty 30 = .ok (.iconst 0, 1) := by decide +kernel
theorem dX1_dirty_31 : decode cX1_dirty 31 = .ok (.ireturn, 1) := by decide +kernel
theorem dX1_copy_0 : decode cX1_copy 0 = .ok (.bipush 16, 2) := by decide +kernel
theorem dX1_copy_2 : decode cX1_copy 2 = .ok (.iload_n 2, 1) := by decide +kernel
theorem dX1_copy_3 : decode cX1_copy 3 = .ok (.imul, 1) := by decide +kernel
theorem dX1_copy_4 : decode cX1_copy 4 = .ok (.istore_n 3, 1) := by decide +kernel
theorem dX1_copy_5 : decode cX1_copy 5 = .ok (.iload_n 3, 1) := by decide +kernel
theorem dX1_copy_6 : decode cX1_copy 6 = .ok (.bipush 16, 2) := by decide +kernel
theorem dX1_copy_8 : decode cX1_copy 8 = .ok (.iload_n 2, 1) := by decide +kernel
theorem dX1_copy_9 : decode cX1_copy 9 = .ok (.imul, 1) := by decide +kernel
theorem dX1_copy_10 : decode cX1_copy 10 = .ok (.bipush 16, 2) := by decide +kernel
theorem dX1_copy_12 : decode cX1_copy 12 = .ok (.iadd, 1) := by decide +kernel
theorem dX1_copy_13 : decode cX1_copy 13 = .ok (.if_icmp .ge 15, 3) := by decide +kernel
theorem dX1_copy_16 : decode cX1_copy 16 = .ok (.aload_n 1, 1) := by decide +kernel
theorem dX1_copy_17 : decode cX1_copy 17 = .ok (.iload_n 3, 1) := by decide +kernel
theorem dX1_copy_18 : decode cX1_copy 18 = .ok (.aload_n 0, 1) := by decide +kernel
theorem dX1_copy_19 : decode cX1_copy 19 = .ok (.iload_n 3, 1) := by decide +kernel
theorem dX1_copy_20 : decode cX1_copy 20 = .ok (.baload, 1) := by decide +kernel
theorem dX1_copy_21 : decode cX1_copy 21 = .ok (.bastore, 1) := by decide +kernel
theorem dX1_copy_22 : decode cX1_copy 22 = .ok (.iinc 3 1, 3) := by decide +kernel
theorem dX1_copy_25 : decode cX1_copy 25 = .ok (.goto (-20), 3) := by decide +kernel
theorem dX1_copy_28 : decode cX1_copy 28 = .ok (.return_, 1) := by decide +kernel
theorem dX1_many_0 : decode cX1_many 0 = .ok (.iconst 0, 1) := by decide +kernel
theorem dX1_many_1 : decode cX1_many 1 = .ok (.istore_n 1, 1) := by decide +kernel
theorem dX1_many_2 : decode cX1_many 2 = .ok (.iconst 0, 1) := by decide +kernel
theorem dX1_many_3 : decode cX1_many 3 = .ok (.istore_n 2, 1) := by decide +kernel
theorem dX1_many_4 : decode cX1_many 4 = .ok (.iload_n 2, 1) := by decide +kernel
theorem dX1_many_5 : decode cX1_many 5 = .ok (.bipush 24, 2) := by decide +kernel
theorem dX1_many_7 : decode cX1_many 7 = .ok (.if_icmp .ge 26, 3) := by decide +kernel
theorem dX1_many_10 : decode cX1_many 10 = .ok (.iload_n 1, 1) := by decide +kernel
theorem dX1_many_11 : decode cX1_many 11 = .ok (.aload_n 0, 1) := by decide +kernel
theorem dX1_many_12 : decode cX1_many 12 = .ok (.getfield 19, 3) := by decide +kernel
theorem dX1_many_15 : decode cX1_many 15 = .ok (.iload_n 2, 1) := by decide +kernel
theorem dX1_many_16 : decode cX1_many 16 = .ok (.baload, 1) := by decide +kernel
theorem dX1_many_17 : decode cX1_many 17 = .ok (.ifCond .eq 7, 3) := by decide +kernel
theorem dX1_many_20 : decode cX1_many 20 = .ok (.iconst 1, 1) := by decide +kernel
theorem dX1_many_21 : decode cX1_many 21 = .ok (.goto 4, 3) := by decide +kernel
theorem dX1_many_24 : decode cX1_many 24 = .ok (.iconst 0, 1) := by decide +kernel
theorem dX1_many_25 : decode cX1_many 25 = .ok (.iadd, 1) := by decide +kernel
theorem dX1_many_26 : decode cX1_many 26 = .ok (.istore_n 1, 1) := by decide +kernel
theorem dX1_many_27 : decode cX1_many 27 = .ok (.iinc 2 1, 3) := by decide +kernel
theorem dX1_many_30 : decode cX1_many 30 = .ok (.goto (-26), 3) := by decide +kernel
theorem dX1_many_33 : decode cX1_many 33 = .ok (.iload_n 1, 1) := by decide +kernel
theorem dX1_many_34 : decode cX1_many 34 = .ok (.ireturn, 1) := by decide +kernel
set_option maxRecDepth 20000 in
theorem ggX1_note_X1_copy : GoodIn wsX1_note wsX1_copy := goodIn_r _ [9] (by decide +kernel) (by decide +kernel)
set_option maxRecDepth 20000 in
theorem gX1_note_X1_copy : GoodIn wsX1_note (va_wsS RX1 38 yX1_copy wsX1_copy) := goodIn_app (goodIn_of _ (by decide +kernel)) ggX1_note_X1_copy
theorem dX1_note_0 : decode cX1_note 0 = .ok (.iconst 0, 1) := by decide +kernel
theorem dX1_note_1 : decode cX1_note 1 = .ok (.istore_n 1, 1) := by decide +kernel
theorem dX1_note_2 : decode cX1_note 2 = .ok (.iload_n 1, 1) := by decide +kernel
theorem dX1_note_3 : decode cX1_note 3 = .ok (.bipush 24, 2) := by decide +kernel
theorem dX1_note_5 : decode cX1_note 5 = .ok (.if_icmp .ge 42, 3) := by decide +kernel
theorem dX1_note_8 : decode cX1_note 8 = .ok (.aload_n 0, 1) := by decide +kernel
theorem dX1_note_9 : decode cX1_note 9 = .ok (.getfield 23, 3) := by decide +kernel
theorem dX1_note_12 : decode cX1_note 12 = .ok (.iload_n 1, 1) := by decide +kernel
theorem dX1_note_13 : decode cX1_note 13 = .ok (.aload_n 0, 1) := by decide +kernel
theorem dX1_note_14 : decode cX1_note 14 = .ok (.getfield 19, 3) := by decide +kernel
theorem dX1_note_17 : decode cX1_note 17 = .ok (.iload_n 1, 1) := by decide +kernel
theorem dX1_note_18 : decode cX1_note 18 = .ok (.baload, 1) := by decide +kernel
theorem dX1_note_19 : decode cX1_note 19 = .ok (.bastore, 1) := by decide +kernel
theorem dX1_note_20 : decode cX1_note 20 = .ok (.aload_n 0, 1) := by decide +kernel
theorem dX1_note_21 : decode cX1_note 21 = .ok (.getfield 19, 3) := by decide +kernel
theorem dX1_note_24 : decode cX1_note 24 = .ok (.iload_n 1, 1) := by decide +kernel
theorem dX1_note_25 : decode cX1_note 25 = .ok (.baload, 1) := by decide +kernel
theorem dX1_note_26 : decode cX1_note 26 = .ok (.ifCond .eq 15, 3) := by decide +kernel
theorem dX1_note_29 : decode cX1_note 29 = .ok (.aload_n 0, 1) := by decide +kernel
theorem dX1_note_30 : decode cX1_note 30 = .ok (.getfield 7, 3) := by decide +kernel
theorem dX1_note_33 : decode cX1_note 33 = .ok (.aload_n 0, 1) := by decide +kernel
theorem dX1_note_34 : decode cX1_note 34 = .ok (.getfield 16, 3) := by decide +kernel
theorem dX1_note_37 : decode cX1_note 37 = .ok (.iload_n 1, 1) := by decide +kernel
theorem dX1_note_38 : decode cX1_note 38 = .ok (.invokestatic 38, 3) := by decide +kernel
theorem dX1_note_41 : decode cX1_note 41 = .ok (.iinc 1 1, 3) := by decide +kernel
theorem dX1_note_44 : decode cX1_note 44 = .ok (.goto (-42), 3) := by decide +kernel
theorem dX1_note_47 : decode cX1_note 47 = .ok (.aload_n 0, 1) := by decide +kernel
theorem dX1_note_48 : decode cX1_note 48 = .ok (.iconst 1, 1) := by decide +kernel
theorem dX1_note_49 : decode cX1_note 49 = .ok (.putfield 42, 3) := by decide +kernel
theorem dX1_note_52 : decode cX1_note 52 = .ok (.return_, 1) := by decide +kernel
set_option maxRecDepth 20000 in
theorem ggX1_lay_X1_copy : GoodIn wsX1_lay wsX1_copy := goodIn_r _ [7] (by decide +kernel) (by decide +kernel)
set_option maxRecDepth 20000 in
theorem gX1_lay_X1_copy : GoodIn wsX1_lay (va_wsS RX1 38 yX1_copy wsX1_copy) := goodIn_app (goodIn_of _ (by decide +kernel)) ggX1_lay_X1_copy
theorem dX1_lay_0 : decode cX1_lay 0 = .ok (.iconst 0, 1) := by decide +kernel
theorem dX1_lay_1 : decode cX1_lay 1 = .ok (.istore_n 2, 1) := by decide +kernel
theorem dX1_lay_2 : decode cX1_lay 2 = .ok (.iconst 0, 1) := by decide +kernel
theorem dX1_lay_3 : decode cX1_lay 3 = .ok (.istore_n 3, 1) := by decide +kernel
theorem dX1_lay_4 : decode cX1_lay 4 = .ok (.iload_n 3, 1) := by decide +kernel
theorem dX1_lay_5 : decode cX1_lay 5 = .ok (.bipush 24, 2) := by decide +kernel
theorem dX1_lay_7 : decode cX1_lay 7 = .ok (.if_icmp .ge 52, 3) := by decide +kernel
theorem dX1_lay_10 : decode cX1_lay 10 = .ok (.aload_n 0, 1) := by decide +kernel
theorem dX1_lay_11 : decode cX1_lay 11 = .ok (.getfield 23, 3) := by decide +kernel
theorem dX1_lay_14 : decode cX1_lay 14 = .ok (.iload_n 3, 1) := by decide +kernel
theorem dX1_lay_15 : decode cX1_lay 15 = .ok (.baload, 1) := by decide +kernel
theorem dX1_lay_16 : decode cX1_lay 16 = .ok (.ifCond .eq 20, 3) := by decide +kernel
theorem dX1_lay_19 : decode cX1_lay 19 = .ok (.iload_n 2, 1) := by decide +kernel
theorem dX1_lay_20 : decode cX1_lay 20 = .ok (.iload_n 1, 1) := by decide +kernel
theorem dX1_lay_21 : decode cX1_lay 21 = .ok (.if_icmp .ge 15, 3) := by decide +kernel
theorem dX1_lay_24 : decode cX1_lay 24 = .ok (.aload_n 0, 1) := by decide +kernel
theorem dX1_lay_25 : decode cX1_lay 25 = .ok (.getfield 16, 3) := by decide +kernel
theorem dX1_lay_28 : decode cX1_lay 28 = .ok (.aload_n 0, 1) := by decide +kernel
theorem dX1_lay_29 : decode cX1_lay 29 = .ok (.getfield 13, 3) := by decide +kernel
theorem dX1_lay_32 : decode cX1_lay 32 = .ok (.iload_n 3, 1) := by decide +kernel
theorem dX1_lay_33 : decode cX1_lay 33 = .ok (.invokestatic 38, 3) := by decide +kernel
theorem dX1_lay_36 : decode cX1_lay 36 = .ok (.iload_n 2, 1) := by decide +kernel
theorem dX1_lay_37 : decode cX1_lay 37 = .ok (.aload_n 0, 1) := by decide +kernel
theorem dX1_lay_38 : decode cX1_lay 38 = .ok (.getfield 23, 3) := by decide +kernel
theorem dX1_lay_41 : decode cX1_lay 41 = .ok (.iload_n 3, 1) := by decide +kernel
theorem dX1_lay_42 : decode cX1_lay 42 = .ok (.baload, 1) := by decide +kernel
theorem dX1_lay_43 : decode cX1_lay 43 = .ok (.ifCond .eq 7, 3) := by decide +kernel
theorem dX1_lay_46 : decode cX1_lay 46 = .ok (.iconst 1, 1) := by decide +kernel
theorem dX1_lay_47 : decode cX1_lay 47 = .ok (.goto 4, 3) := by decide +kernel
theorem dX1_lay_50 : decode cX1_lay 50 = .ok (.iconst 0, 1) := by decide +kernel
theorem dX1_lay_51 : decode cX1_lay 51 = .ok (.iadd, 1) := by decide +kernel
theorem dX1_lay_52 : decode cX1_lay 52 = .ok (.istore_n 2, 1) := by decide +kernel
theorem dX1_lay_53 : decode cX1_lay 53 = .ok (.iinc 3 1, 3) := by decide +kernel
theorem dX1_lay_56 : decode cX1_lay 56 = .ok (.goto (-52), 3) := by decide +kernel
theorem dX1_lay_59 : decode cX1_lay 59 = .ok (.return_, 1) := by decide +kernel
set_option maxRecDepth 20000 in
theorem ggX1_fresh_X1_copy : GoodIn wsX1_fresh wsX1_copy := goodIn_r _ [7] (by decide +kernel) (by decide +kernel)
set_option maxRecDepth 20000 in
theorem gX1_fresh_X1_copy : GoodIn wsX1_fresh (va_wsS RX1 38 yX1_copy wsX1_copy) := goodIn_app (goodIn_of _ (by decide +kernel)) ggX1_fresh_X1_copy
theorem dX1_fresh_0 : decode cX1_fresh 0 = .ok (.iconst 0, 1) := by decide +kernel
theorem dX1_fresh_1 : decode cX1_fresh 1 = .ok (.istore_n 1, 1) := by decide +kernel
theorem dX1_fresh_2 : decode cX1_fresh 2 = .ok (.iload_n 1, 1) := by decide +kernel
theorem dX1_fresh_3 : decode cX1_fresh 3 = .ok (.bipush 24, 2) := by decide +kernel
theorem dX1_fresh_5 : decode cX1_fresh 5 = .ok (.if_icmp .ge 28, 3) := by decide +kernel
theorem dX1_fresh_8 : decode cX1_fresh 8 = .ok (.aload_n 0, 1) := by decide +kernel
theorem dX1_fresh_9 : decode cX1_fresh 9 = .ok (.getfield 13, 3) := by decide +kernel
theorem dX1_fresh_12 : decode cX1_fresh 12 = .ok (.aload_n 0, 1) := by decide +kernel
theorem dX1_fresh_13 : decode cX1_fresh 13 = .ok (.getfield 7, 3) := by decide +kernel
theorem dX1_fresh_16 : decode cX1_fresh 16 = .ok (.iload_n 1, 1) := by decide +kernel
theorem dX1_fresh_17 : decode cX1_fresh 17 = .ok (.invokestatic 38, 3) := by decide +kernel
theorem dX1_fresh_20 : decode cX1_fresh 20 = .ok (.aload_n 0, 1) := by decide +kernel
theorem dX1_fresh_21 : decode cX1_fresh 21 = .ok (.getfield 19, 3) := by decide +kernel
theorem dX1_fresh_24 : decode cX1_fresh 24 = .ok (.iload_n 1, 1) := by decide +kernel
theorem dX1_fresh_25 : decode cX1_fresh 25 = .ok (.iconst 0, 1) := by decide +kernel
theorem dX1_fresh_26 : decode cX1_fresh 26 = .ok (.bastore, 1) := by decide +kernel
theorem dX1_fresh_27 : decode cX1_fresh 27 = .ok (.iinc 1 1, 3) := by decide +kernel
theorem dX1_fresh_30 : decode cX1_fresh 30 = .ok (.goto (-28), 3) := by decide +kernel
theorem dX1_fresh_33 : decode cX1_fresh 33 = .ok (.return_, 1) := by decide +kernel
set_option maxRecDepth 20000 in
theorem ggX1_commit_X1_many : GoodIn wsX1_commit wsX1_many := goodIn_r _ [11, 6, 27, 28, 29, 30, 31, 32, 33, 34, 35, 36] (by decide +kernel) (by decide +kernel)
set_option maxRecDepth 20000 in
theorem gX1_commit_X1_many : GoodIn wsX1_commit (wsV RX1 45 RX1 yX1_many wsX1_many) := goodIn_app (goodIn_of _ (by decide +kernel)) ggX1_commit_X1_many
set_option maxRecDepth 20000 in
theorem ggX1_commit_X1_note : GoodIn wsX1_commit wsX1_note := goodIn_r _ [15, 16, 6, 17, 18, 5, 19, 20, 10, 21, 27, 28, 29, 30, 31, 32, 33, 34, 35, 36] (by decide +kernel) (by decide +kernel)
set_option maxRecDepth 20000 in
theorem gX1_commit_X1_note : GoodIn wsX1_commit (wsV RX1 59 RX1 yX1_note wsX1_note) := goodIn_app (goodIn_of _ (by decide +kernel)) ggX1_commit_X1_note
set_option maxRecDepth 20000 in
theorem ggX1_commit_X1_lay : GoodIn wsX1_commit wsX1_lay := goodIn_r _ [25, 16, 18, 26, 19, 20, 10, 21, 27, 28, 29, 30, 31, 32, 33, 34, 35, 36] (by decide +kernel) (by decide +kernel)
set_option maxRecDepth 20000 in
theorem gX1_commit_X1_lay : GoodIn wsX1_commit (wsV RX1 62 RX1 yX1_lay wsX1_lay) := goodIn_app (goodIn_of _ (by decide +kernel)) ggX1_commit_X1_lay
theorem dX1_commit_0 : decode cX1_commit 0 = .ok (.aload_n 0, 1) := by decide +kernel
theorem dX1_commit_1 : decode cX1_commit 1 = .ok (.getfield 30, 3) := by decide +kernel
theorem dX1_commit_4 : decode cX1_commit 4 = .ok (.ifCond .eq 5, 3) := by decide +kernel
theorem dX1_commit_7 : decode cX1_commit 7 = .ok (.iconst 0, 1) := by decide +kernel
theorem dX1_commit_8 : decode cX1_commit 8 = .ok (.ireturn, 1) := by decide +kernel
theorem dX1_commit_9 : decode cX1_commit 9 = .ok (.aload_n 0, 1) := by decide +kernel
theorem dX1_commit_10 : decode cX1_commit 10 = .ok (.invokevirtual 45, 3) := by decide +kernel
theorem dX1_commit_13 : decode cX1_commit 13 = .ok (.istore_n 1, 1) := by decide +kernel
theorem dX1_commit_14 : decode cX1_commit 14 = .ok (.aload_n 0, 1) := by decide +kernel
theorem dX1_commit_15 : decode cX1_commit 15 = .ok (.iload_n 1, 1) := by decide +kernel
theorem dX1_commit_16 : decode cX1_commit 16 = .ok (.putfield 49, 3) := by decide +kernel
theorem dX1_commit_19 : decode cX1_commit 19 = .ok (.aload_n 0, 1) := by decide +kernel
theorem dX1_commit_20 : decode cX1_commit 20 = .ok (.aload_n 0, 1) := by decide +kernel
theorem dX1_commit_21 : decode cX1_commit 21 = .ok (.getfield 53, 3) := by decide +kernel
theorem dX1_commit_24 : decode cX1_commit 24 = .ok (.ifCond .le 12, 3) := by decide +kernel
theorem dX1_commit_27 : decode cX1_commit 27 = .ok (.aload_n 0, 1) := by decide +kernel
theorem dX1_commit_28 : decode cX1_commit 28 = .ok (.getfield 53, 3) := by decide +kernel
theorem dX1_commit_31 : decode cX1_commit 31 = .ok (.iconst 1, 1) := by decide +kernel
theorem dX1_commit_32 : decode cX1_commit 32 = .ok (.isub, 1) := by decide +kernel
theorem dX1_commit_33 : decode cX1_commit 33 = .ok (.goto 4, 3) := by decide +kernel
theorem dX1_commit_36 : decode cX1_commit 36 = .ok (.iconst (-1), 1) := by decide +kernel
theorem dX1_commit_37 : decode cX1_commit 37 = .ok (.putfield 53, 3) := by decide +kernel
theorem dX1_commit_40 : decode cX1_commit 40 = .ok (.aload_n 0, 1) := by decide +kernel
theorem dX1_commit_41 : decode cX1_commit 41 = .ok (.aload_n 0, 1) := by decide +kernel
theorem dX1_commit_42 : decode cX1_commit 42 = .ok (.getfield 53, 3) := by decide +kernel
theorem dX1_commit_45 : decode cX1_commit 45 = .ok (.ifCond .ne 7, 3) := by decide +kernel
theorem dX1_commit_48 : decode cX1_commit 48 = .ok (.iconst 1, 1) := by decide +kernel
theorem dX1_commit_49 : decode cX1_commit 49 = .ok (.goto 4, 3) := by decide +kernel
theorem dX1_commit_52 : decode cX1_commit 52 = .ok (.iconst 0, 1) := by decide +kernel
theorem dX1_commit_53 : decode cX1_commit 53 = .ok (.putfield 30, 3) := by decide +kernel
theorem dX1_commit_56 : decode cX1_commit 56 = .ok (.aload_n 0, 1) := by decide +kernel
theorem dX1_commit_57 : decode cX1_commit 57 = .ok (.getfield 30, 3) := by decide +kernel
theorem dX1_commit_60 : decode cX1_commit 60 = .ok (.ifCond .eq 15, 3) := by decide +kernel
theorem dX1_commit_63 : decode cX1_commit 63 = .ok (.aload_n 0, 1) := by decide +kernel
theorem dX1_commit_64 : decode cX1_commit 64 = .ok (.getfield 56, 3) := by decide +kernel
theorem dX1_commit_67 : decode cX1_commit 67 = .ok (.sipush 500, 3) := by decide +kernel
theorem dX1_commit_70 : decode cX1_commit 70 = .ok (.if_icmp .ge 5, 3) := by decide +kernel
theorem dX1_commit_73 : decode cX1_commit 73 = .ok (.iconst 0, 1) := by decide +kernel
theorem dX1_commit_74 : decode cX1_commit 74 = .ok (.ireturn, 1) := by decide +kernel
theorem dX1_commit_75 : decode cX1_commit 75 = .ok (.aload_n 0, 1) := by decide +kernel
theorem dX1_commit_76 : decode cX1_commit 76 = .ok (.invokevirtual 59, 3) := by decide +kernel
theorem dX1_commit_79 : decode cX1_commit 79 = .ok (.aload_n 0, 1) := by decide +kernel
theorem dX1_commit_80 : decode cX1_commit 80 = .ok (.aload_n 0, 1) := by decide +kernel
theorem dX1_commit_81 : decode cX1_commit 81 = .ok (.getfield 30, 3) := by decide +kernel
theorem dX1_commit_84 : decode cX1_commit 84 = .ok (.ifCond .eq 20, 3) := by decide +kernel
theorem dX1_commit_87 : decode cX1_commit 87 = .ok (.iload_n 1, 1) := by decide +kernel
theorem dX1_commit_88 : decode cX1_commit 88 = .ok (.aload_n 0, 1) := by decide +kernel
theorem dX1_commit_89 : decode cX1_commit 89 = .ok (.getfield 56, 3) := by decide +kernel
theorem dX1_commit_92 : decode cX1_commit 92 = .ok (.sipush 500, 3) := by decide +kernel
theorem dX1_commit_95 : decode cX1_commit 95 = .ok (.isub, 1) := by decide +kernel
theorem dX1_commit_96 : decode cX1_commit 96 = .ok (.imul, 1) := by decide +kernel
theorem dX1_commit_97 : decode cX1_commit 97 = .ok (.sipush 500, 3) := by decide +kernel
theorem dX1_commit_100 : decode cX1_commit 100 = .ok (.idiv, 1) := by decide +kernel
theorem dX1_commit_101 : decode cX1_commit 101 = .ok (.goto 4, 3) := by decide +kernel
theorem dX1_commit_104 : decode cX1_commit 104 = .ok (.iload_n 1, 1) := by decide +kernel
theorem dX1_commit_105 : decode cX1_commit 105 = .ok (.invokevirtual 62, 3) := by decide +kernel
theorem dX1_commit_108 : decode cX1_commit 108 = .ok (.aload_n 0, 1) := by decide +kernel
theorem dX1_commit_109 : decode cX1_commit 109 = .ok (.aload_n 0, 1) := by decide +kernel
theorem dX1_commit_110 : decode cX1_commit 110 = .ok (.getfield 30, 3) := by decide +kernel
theorem dX1_commit_113 : decode cX1_commit 113 = .ok (.putfield 42, 3) := by decide +kernel
theorem dX1_commit_116 : decode cX1_commit 116 = .ok (.iconst 0, 1) := by decide +kernel
theorem dX1_commit_117 : decode cX1_commit 117 = .ok (.istore_n 2, 1) := by decide +kernel
theorem dX1_commit_118 : decode cX1_commit 118 = .ok (.iload_n 2, 1) := by decide +kernel
theorem dX1_commit_119 : decode cX1_commit 119 = .ok (.bipush 24, 2) := by decide +kernel
theorem dX1_commit_121 : decode cX1_commit 121 = .ok (.if_icmp .ge 16, 3) := by decide +kernel
theorem dX1_commit_124 : decode cX1_commit 124 = .ok (.aload_n 0, 1) := by decide +kernel
theorem dX1_commit_125 : decode cX1_commit 125 = .ok (.getfield 19, 3) := by decide +kernel
theorem dX1_commit_128 : decode cX1_commit 128 = .ok (.iload_n 2, 1) := by decide +kernel
theorem dX1_commit_129 : decode cX1_commit 129 = .ok (.iconst 0, 1) := by decide +kernel
theorem dX1_commit_130 : decode cX1_commit 130 = .ok (.bastore, 1) := by decide +kernel
theorem dX1_commit_131 : decode cX1_commit 131 = .ok (.iinc 2 1, 3) := by decide +kernel
theorem dX1_commit_134 : decode cX1_commit 134 = .ok (.goto (-16), 3) := by decide +kernel
theorem dX1_commit_137 : decode cX1_commit 137 = .ok (.aload_n 0, 1) := by decide +kernel
theorem dX1_commit_138 : decode cX1_commit 138 = .ok (.getfield 30, 3) := by decide +kernel
theorem dX1_commit_141 : decode cX1_commit 141 = .ok (.ifCond .ne 7, 3) := by decide +kernel
theorem dX1_commit_144 : decode cX1_commit 144 = .ok (.iconst 1, 1) := by decide +kernel
theorem dX1_commit_145 : decode cX1_commit 145 = .ok (.goto 4, 3) := by decide +kernel
theorem dX1_commit_148 : decode cX1_commit 148 = .ok (.iconst 0, 1) := by decide +kernel
theorem dX1_commit_149 : decode cX1_commit 149 = .ok (.ireturn, 1) := by decide +kernel
set_option maxRecDepth 20000 in
theorem ggX1_revert_X1_fresh : GoodIn wsX1_revert wsX1_fresh := goodIn_r _ [6, 7, 8, 9, 10, 11, 5, 12, 13, 14, 15, 16, 17, 18, 19, 20, 21, 22] (by decide +kernel) (by decide +kernel)
set_option maxRecDepth 20000 in
theorem gX1_revert_X1_fresh : GoodIn wsX1_revert (wsV RX1 66 RX1 yX1_fresh wsX1_fresh) := goodIn_app (goodIn_of _ (by decide +kernel)) ggX1_revert_X1_fresh
theorem dX1_revert_0 : decode cX1_revert 0 = .ok (.aload_n 0, 1) := by decide +kernel
theorem dX1_revert_1 : decode cX1_revert 1 = .ok (.getfield 30, 3) := by decide +kernel
theorem dX1_revert_4 : decode cX1_revert 4 = .ok (.ifCond .eq 5, 3) := by decide +kernel
theorem dX1_revert_7 : decode cX1_revert 7 = .ok (.iconst 0, 1) := by decide +kernel
theorem dX1_revert_8 : decode cX1_revert 8 = .ok (.ireturn, 1) := by decide +kernel
theorem dX1_revert_9 : decode cX1_revert 9 = .ok (.aload_n 0, 1) := by decide +kernel
theorem dX1_revert_10 : decode cX1_revert 10 = .ok (.invokevirtual 66, 3) := by decide +kernel
theorem dX1_revert_13 : decode cX1_revert 13 = .ok (.iconst 1, 1) := by decide +kernel
theorem dX1_revert_14 : decode cX1_revert 14 = .ok (.ireturn, 1) := by decide +kernel
set_option maxRecDepth 20000 in
theorem ggX1_cut_X1_in : GoodIn wsX1_cut wsX1_in := goodIn_r _ [7] (by decide +kernel) (by decide +kernel)
set_option maxRecDepth 20000 in
theorem gX1_cut_X1_in : GoodIn wsX1_cut (va_wsS RX1 26 yX1_in wsX1_in) := goodIn_app (goodIn_of _ (by decide +kernel)) ggX1_cut_X1_in
theorem dX1_cut_0 : decode cX1_cut 0 = .ok (.aload_n 0, 1) := by decide +kernel
theorem dX1_cut_1 : decode cX1_cut 1 = .ok (.getfield 30, 3) := by decide +kernel
theorem dX1_cut_4 : decode cX1_cut 4 = .ok (.ifCond .ne 25, 3) := by decide +kernel
theorem dX1_cut_7 : decode cX1_cut 7 = .ok (.iload_n 1, 1) := by decide +kernel
theorem dX1_cut_8 : decode cX1_cut 8 = .ok (.iconst 1, 1) := by decide +kernel
theorem dX1_cut_9 : decode cX1_cut 9 = .ok (.sipush 1000, 3) := by decide +kernel
theorem dX1_cut_12 : decode cX1_cut 12 = .ok (.invokestatic 26, 3) := by decide +kernel
theorem dX1_cut_15 : decode cX1_cut 15 = .ok (.ifCond .eq 14, 3) := by decide +kernel
theorem dX1_cut_18 : decode cX1_cut 18 = .ok (.iload_n 2, 1) := by decide +kernel
theorem dX1_cut_19 : decode cX1_cut 19 = .ok (.iconst 0, 1) := by decide +kernel
theorem dX1_cut_20 : decode cX1_cut 20 = .ok (.sipush 999, 3) := by decide +kernel
theorem dX1_cut_23 : decode cX1_cut 23 = .ok (.invokestatic 26, 3) := by decide +kernel
theorem dX1_cut_26 : decode cX1_cut 26 = .ok (.ifCond .ne 5, 3) := by decide +kernel
theorem dX1_cut_29 : decode cX1_cut 29 = .ok (.iconst 0, 1) := by decide +kernel
theorem dX1_cut_30 : decode cX1_cut 30 = .ok (.ireturn, 1) := by decide +kernel
theorem dX1_cut_31 : decode cX1_cut 31 = .ok (.aload_n 0, 1) := by decide +kernel
theorem dX1_cut_32 : decode cX1_cut 32 = .ok (.iload_n 1, 1) := by decide +kernel
theorem dX1_cut_33 : decode cX1_cut 33 = .ok (.putfield 53, 3) := by decide +kernel
theorem dX1_cut_36 : decode cX1_cut 36 = .ok (.aload_n 0, 1) := by decide +kernel
theorem dX1_cut_37 : decode cX1_cut 37 = .ok (.iload_n 2, 1) := by decide +kernel
theorem dX1_cut_38 : decode cX1_cut 38 = .ok (.putfield 56, 3) := by decide +kernel
theorem dX1_cut_41 : decode cX1_cut 41 = .ok (.iconst 1, 1) := by decide +kernel
theorem dX1_cut_42 : decode cX1_cut 42 = .ok (.ireturn, 1) := by decide +kernel
theorem dX1_loggedMany_0 : decode cX1_loggedMany 0 = .ok (.iconst 0, 1) := by decide +kernel
theorem dX1_loggedMany_1 : decode cX1_loggedMany 1 = .ok (.istore_n 1, 1) := by decide +kernel
theorem dX1_loggedMany_2 : decode cX1_loggedMany 2 = .ok (.iconst 0, 1) := by decide +kernel
theorem dX1_loggedMany_3 : decode cX1_loggedMany 3 = .ok (.istore_n 2, 1) := by decide +kernel
theorem dX1_loggedMany_4 : decode cX1_loggedMany 4 = .ok (.iload_n 2, 1) := by decide +kernel
theorem dX1_loggedMany_5 : decode cX1_loggedMany 5 = .ok (.bipush 24, 2) := by decide +kernel
theorem dX1_loggedMany_7 : decode cX1_loggedMany 7 = .ok (.if_icmp .ge 26, 3) := by decide +kernel
theorem dX1_loggedMany_10 : decode cX1_loggedMany 10 = .ok (.iload_n 1, 1) := by decide +kernel
theorem dX1_loggedMany_11 : decode cX1_loggedMany 11 = .ok (.aload_n 0, 1) := by decide +kernel
theorem dX1_loggedMany_12 : decode cX1_loggedMany 12 = .ok (.getfield 23, 3) := by decide +kernel
theorem dX1_loggedMany_15 : decode cX1_loggedMany 15 = .ok (.iload_n 2, 1) := by decide +kernel
theorem dX1_loggedMany_16 : decode cX1_loggedMany 16 = .ok (.baload, 1) := by decide +kernel
theorem dX1_loggedMany_17 : decode cX1_loggedMany 17 = .ok (.ifCond .eq 7, 3) := by decide +kernel
theorem dX1_loggedMany_20 : decode cX1_loggedMany 20 = .ok (.iconst 1, 1) := by decide +kernel
theorem dX1_loggedMany_21 : decode cX1_loggedMany 21 = .ok (.goto 4, 3) := by decide +kernel
theorem dX1_loggedMany_24 : decode cX1_loggedMany 24 = .ok (.iconst 0, 1) := by decide +kernel
theorem dX1_loggedMany_25 : decode cX1_loggedMany 25 = .ok (.iadd, 1) := by decide +kernel
theorem dX1_loggedMany_26 : decode cX1_loggedMany 26 = .ok (.istore_n 1, 1) := by decide +kernel
theorem dX1_loggedMany_27 : decode cX1_loggedMany 27 = .ok (.iinc 2 1, 3) := by decide +kernel
theorem dX1_loggedMany_30 : decode cX1_loggedMany 30 = .ok (.goto (-26), 3) := by decide +kernel
theorem dX1_loggedMany_33 : decode cX1_loggedMany 33 = .ok (.iload_n 1, 1) := by decide +kernel
theorem dX1_loggedMany_34 : decode cX1_loggedMany 34 = .ok (.ireturn, 1) := by decide +kernel
set_option maxRecDepth 20000 in
theorem ggX1_start_X1_in : GoodIn wsX1_start wsX1_in := goodIn_r _ [6] (by decide +kernel) (by decide +kernel)
set_option maxRecDepth 20000 in
theorem gX1_start_X1_in : GoodIn wsX1_start (va_wsS RX1 26 yX1_in wsX1_in) := goodIn_app (goodIn_of _ (by decide +kernel)) ggX1_start_X1_in
set_option maxRecDepth 20000 in
theorem ggX1_start_X1_loggedMany : GoodIn wsX1_start wsX1_loggedMany := goodIn_r _ [10, 11, 27, 28, 29, 30, 31, 32, 33, 34, 35, 36] (by decide +kernel) (by decide +kernel)
set_option maxRecDepth 20000 in
theorem gX1_start_X1_loggedMany : GoodIn wsX1_start (wsV RX1 69 RX1 yX1_loggedMany wsX1_loggedMany) := goodIn_app (goodIn_of _ (by decide +kernel)) ggX1_start_X1_loggedMany
set_option maxRecDepth 20000 in
theorem ggX1_start_X1_lay : GoodIn wsX1_start wsX1_lay := goodIn_r _ [15, 11, 16, 17, 18, 19, 5, 20, 27, 28, 29, 30, 31, 32, 33, 34, 35, 36] (by decide +kernel) (by decide +kernel)
set_option maxRecDepth 20000 in
theorem gX1_start_X1_lay : GoodIn wsX1_start (wsV RX1 62 RX1 yX1_lay wsX1_lay) := goodIn_app (goodIn_of _ (by decide +kernel)) ggX1_start_X1_lay
set_option maxRecDepth 20000 in
theorem ggX1_start_X1_fresh : GoodIn wsX1_start wsX1_fresh := goodIn_r _ [24, 17, 25, 26, 18, 19, 5, 20, 27, 28, 29, 30, 31, 32, 33, 34, 35, 36] (by decide +kernel) (by decide +kernel)
set_option maxRecDepth 20000 in
theorem gX1_start_X1_fresh : GoodIn wsX1_start (wsV RX1 66 RX1 yX1_fresh wsX1_fresh) := goodIn_app (goodIn_of _ (by decide +kernel)) ggX1_start_X1_fresh
theorem dX1_start_0 : decode cX1_start 0 = .ok (.aload_n 0, 1) := by decide +kernel
theorem dX1_start_1 : decode cX1_start 1 = .ok (.getfield 30, 3) := by decide +kernel
theorem dX1_start_4 : decode cX1_start 4 = .ok (.ifCond .eq 14, 3) := by decide +kernel
theorem dX1_start_7 : decode cX1_start 7 = .ok (.iload_n 1, 1) := by decide +kernel
theorem dX1_start_8 : decode cX1_start 8 = .ok (.iconst 0, 1) := by decide +kernel
theorem dX1_start_9 : decode cX1_start 9 = .ok (.sipush 1000, 3) := by decide +kernel
theorem dX1_start_12 : decode cX1_start 12 = .ok (.invokestatic 26, 3) := by decide +kernel
theorem dX1_start_15 : decode cX1_start 15 = .ok (.ifCond .ne 5, 3) := by decide +kernel
theorem dX1_start_18 : decode cX1_start 18 = .ok (.iconst 0, 1) := by decide +kernel
theorem dX1_start_19 : decode cX1_start 19 = .ok (.ireturn, 1) := by decide +kernel
theorem dX1_start_20 : decode cX1_start 20 = .ok (.aload_n 0, 1) := by decide +kernel
theorem dX1_start_21 : decode cX1_start 21 = .ok (.getfield 42, 3) := by decide +kernel
theorem dX1_start_24 : decode cX1_start 24 = .ok (.ifCond .eq 17, 3) := by decide +kernel
theorem dX1_start_27 : decode cX1_start 27 = .ok (.aload_n 0, 1) := by decide +kernel
theorem dX1_start_28 : decode cX1_start 28 = .ok (.aload_n 0, 1) := by decide +kernel
theorem dX1_start_29 : decode cX1_start 29 = .ok (.invokevirtual 69, 3) := by decide +kernel
theorem dX1_start_32 : decode cX1_start 32 = .ok (.iload_n 1, 1) := by decide +kernel
theorem dX1_start_33 : decode cX1_start 33 = .ok (.imul, 1) := by decide +kernel
theorem dX1_start_34 : decode cX1_start 34 = .ok (.sipush 1000, 3) := by decide +kernel
theorem dX1_start_37 : decode cX1_start 37 = .ok (.idiv, 1) := by decide +kernel
theorem dX1_start_38 : decode cX1_start 38 = .ok (.invokevirtual 62, 3) := by decide +kernel
theorem dX1_start_41 : decode cX1_start 41 = .ok (.iload_n 1, 1) := by decide +kernel
theorem dX1_start_42 : decode cX1_start 42 = .ok (.sipush 1000, 3) := by decide +kernel
theorem dX1_start_45 : decode cX1_start 45 = .ok (.if_icmp .ge 5, 3) := by decide +kernel
theorem dX1_start_48 : decode cX1_start 48 = .ok (.iconst 0, 1) := by decide +kernel
theorem dX1_start_49 : decode cX1_start 49 = .ok (.ireturn, 1) := by decide +kernel
theorem dX1_start_50 : decode cX1_start 50 = .ok (.aload_n 0, 1) := by decide +kernel
theorem dX1_start_51 : decode cX1_start 51 = .ok (.iconst 0, 1) := by decide +kernel
theorem dX1_start_52 : decode cX1_start 52 = .ok (.putfield 42, 3) := by decide +kernel
theorem dX1_start_55 : decode cX1_start 55 = .ok (.aload_n 0, 1) := by decide +kernel
theorem dX1_start_56 : decode cX1_start 56 = .ok (.iconst 0, 1) := by decide +kernel
theorem dX1_start_57 : decode cX1_start 57 = .ok (.putfield 30, 3) := by decide +kernel
theorem dX1_start_60 : decode cX1_start 60 = .ok (.aload_n 0, 1) := by decide +kernel
theorem dX1_start_61 : decode cX1_start 61 = .ok (.invokevirtual 66, 3) := by decide +kernel
theorem dX1_start_64 : decode cX1_start 64 = .ok (.iconst 1, 1) := by decide +kernel
theorem dX1_start_65 : decode cX1_start 65 = .ok (.ireturn, 1) := by decide +kernel
theorem dX1_state_0 : decode cX1_state 0 = .ok (.iload_n 1, 1) := by decide +kernel
theorem dX1_state_1 : decode cX1_state 1 = .ok (.tableswitch 58 0 2 #[27, 40, 53], 27) := by decide +kernel
theorem dX1_state_28 : decode cX1_state 28 = .ok (.aload_n 0, 1) := by decide +kernel
theorem dX1_state_29 : decode cX1_state 29 = .ok (.getfield 30, 3) := by decide +kernel
theorem dX1_state_32 : decode cX1_state 32 = .ok (.ifCond .eq 7, 3) := by decide +kernel
theorem dX1_state_35 : decode cX1_state 35 = .ok (.iconst 0, 1) := by decide +kernel
theorem dX1_state_36 : decode cX1_state 36 = .ok (.goto 4, 3) := by decide +kernel
theorem dX1_state_39 : decode cX1_state 39 = .ok (.iconst 1, 1) := by decide +kernel
theorem dX1_state_40 : decode cX1_state 40 = .ok (.ireturn, 1) := by decide +kernel
theorem dX1_state_41 : decode cX1_state 41 = .ok (.aload_n 0, 1) := by decide +kernel
theorem dX1_state_42 : decode cX1_state 42 = .ok (.getfield 42, 3) := by decide +kernel
theorem dX1_state_45 : decode cX1_state 45 = .ok (.ifCond .eq 7, 3) := by decide +kernel
theorem dX1_state_48 : decode cX1_state 48 = .ok (.iconst 1, 1) := by decide +kernel
theorem dX1_state_49 : decode cX1_state 49 = .ok (.goto 4, 3) := by decide +kernel
theorem dX1_state_52 : decode cX1_state 52 = .ok (.iconst 0, 1) := by decide +kernel
theorem dX1_state_53 : decode cX1_state 53 = .ok (.ireturn, 1) := by decide +kernel
theorem dX1_state_54 : decode cX1_state 54 = .ok (.aload_n 0, 1) := by decide +kernel
theorem dX1_state_55 : decode cX1_state 55 = .ok (.getfield 49, 3) := by decide +kernel
theorem dX1_state_58 : decode cX1_state 58 = .ok (.ireturn, 1) := by decide +kernel
theorem dX1_state_59 : decode cX1_state 59 = .ok (.iconst (-1), 1) := by decide +kernel
theorem dX1_state_60 : decode cX1_state 60 = .ok (.ireturn, 1) := by decide +kernel
set_option maxRecDepth 20000 in
theorem ggL_law_X0_init : GoodIn wsL_law wsX0_init := goodIn_r _ [8, 9, 10, 11, 12, 13, 14, 15, 16, 17, 18, 19, 20, 21, 22, 23, 177, 178, 179, 180, 181, 182, 183, 184, 185, 186] (by decide +kernel) (by decide +kernel)
set_option maxRecDepth 20000 in
theorem gL_law_X0_init : GoodIn wsL_law (wsX0_init) := ggL_law_X0_init
set_option maxRecDepth 20000 in
theorem ggL_law_X1_init : GoodIn wsL_law wsX1_init := goodIn_r _ [26, 27, 10, 11, 28, 29, 30, 31, 16, 32, 33, 187, 188, 189, 190, 191, 192, 193, 194, 195, 196] (by decide +kernel) (by decide +kernel)
set_option maxRecDepth 20000 in
theorem gL_law_X1_init : GoodIn wsL_law (wsX1_init) := ggL_law_X1_init
set_option maxRecDepth 20000 in
theorem ggL_law_X0_write : GoodIn wsL_law wsX0_write := goodIn_r _ [37, 19, 13, 17, 38, 39, 2, 40, 41, 42, 43, 177, 178, 179, 180, 181, 182, 183, 184, 185, 186] (by decide +kernel) (by decide +kernel)
set_option maxRecDepth 20000 in
theorem gL_law_X0_write : GoodIn wsL_law (wsV RL 13 RX0 yX0_write wsX0_write) := goodIn_app (goodIn_of _ (by decide +kernel)) ggL_law_X0_write
set_option maxRecDepth 20000 in
theorem ggL_law_X1_write : GoodIn wsL_law wsX1_write := goodIn_r _ [47, 48, 29, 32, 49, 50, 5, 51, 52, 53, 54, 187, 188, 189, 190, 191, 192, 193, 194, 195, 196] (by decide +kernel) (by decide +kernel)
set_option maxRecDepth 20000 in
theorem gL_law_X1_write : GoodIn wsL_law (wsV RL 17 RX1 yX1_write wsX1_write) := goodIn_app (goodIn_of _ (by decide +kernel)) ggL_law_X1_write
set_option maxRecDepth 20000 in
theorem ggL_law_X0_read : GoodIn wsL_law wsX0_read := goodIn_r _ [58, 19, 13, 38, 39, 2, 40, 41, 42, 43, 177, 178, 179, 180, 181, 182, 183, 184, 185, 186] (by decide +kernel) (by decide +kernel)
set_option maxRecDepth 20000 in
theorem gL_law_X0_read : GoodIn wsL_law (wsV RL 18 RX0 yX0_read wsX0_read) := goodIn_app (goodIn_of _ (by decide +kernel)) ggL_law_X0_read
set_option maxRecDepth 20000 in
theorem ggL_law_X1_read : GoodIn wsL_law wsX1_read := goodIn_r _ [62, 48, 29, 49, 50, 5, 51, 52, 53, 54, 187, 188, 189, 190, 191, 192, 193, 194, 195, 196] (by decide +kernel) (by decide +kernel)
set_option maxRecDepth 20000 in
theorem gL_law_X1_read : GoodIn wsL_law (wsV RL 22 RX1 yX1_read wsX1_read) := goodIn_app (goodIn_of _ (by decide +kernel)) ggL_law_X1_read
set_option maxRecDepth 20000 in
theorem ggL_law_X0_disk : GoodIn wsL_law wsX0_disk := goodIn_r _ [66, 14, 38, 39, 2, 40, 41, 42, 43, 177, 178, 179, 180, 181, 182, 183, 184, 185, 186] (by decide +kernel) (by decide +kernel)
set_option maxRecDepth 20000 in
theorem gL_law_X0_disk : GoodIn wsL_law (wsV RL 23 RX0 yX0_disk wsX0_disk) := goodIn_app (goodIn_of _ (by decide +kernel)) ggL_law_X0_disk
set_option maxRecDepth 20000 in
theorem ggL_law_X1_disk : GoodIn wsL_law wsX1_disk := goodIn_r _ [70, 30, 49, 50, 5, 51, 52, 53, 54, 187, 188, 189, 190, 191, 192, 193, 194, 195, 196] (by decide +kernel) (by decide +kernel)
set_option maxRecDepth 20000 in
theorem gL_law_X1_disk : GoodIn wsL_law (wsV RL 26 RX1 yX1_disk wsX1_disk) := goodIn_app (goodIn_of _ (by decide +kernel)) ggL_law_X1_disk
set_option maxRecDepth 20000 in
theorem ggL_law_X0_dirty : GoodIn wsL_law wsX0_dirty := goodIn_r _ [74, 19, 17, 38, 39, 2, 40, 177, 178, 179, 180, 181, 182, 183, 184, 185, 186] (by decide +kernel) (by decide +kernel)
set_option maxRecDepth 20000 in
theorem gL_law_X0_dirty : GoodIn wsL_law (wsV RL 27 RX0 yX0_dirty wsX0_dirty) := goodIn_app (goodIn_of _ (by decide +kernel)) ggL_law_X0_dirty
set_option maxRecDepth 20000 in
theorem ggL_law_X1_dirty : GoodIn wsL_law wsX1_dirty := goodIn_r _ [78, 48, 32, 52, 53, 5, 54, 187, 188, 189, 190, 191, 192, 193, 194, 195, 196] (by decide +kernel) (by decide +kernel)
set_option maxRecDepth 20000 in
theorem gL_law_X1_dirty : GoodIn wsL_law (wsV RL 31 RX1 yX1_dirty wsX1_dirty) := goodIn_app (goodIn_of _ (by decide +kernel)) ggL_law_X1_dirty
set_option maxRecDepth 20000 in
theorem ggL_law_X0_commit : GoodIn wsL_law wsX0_commit := goodIn_r _ [82, 19, 21, 20, 83, 84, 85, 2, 86, 22, 23, 87, 88, 89, 90, 17, 91, 92, 93, 94, 18, 13, 15, 95, 96, 97, 98, 99, 100, 101, 102, 103, 104, 105, 106, 107, 108, 109, 14, 177, 178, 179, 180, 181, 182, 183, 184, 185, 186] (by decide +kernel) (by decide +kernel)
set_option maxRecDepth 20000 in
theorem gL_law_X0_commit : GoodIn wsL_law (wsV RL 32 RX0 yX0_commit wsX0_commit) := goodIn_app (goodIn_of _ (by decide +kernel)) ggL_law_X0_commit
set_option maxRecDepth 20000 in
theorem ggL_law_X1_commit : GoodIn wsL_law wsX1_commit := goodIn_r _ [113, 48, 114, 115, 116, 117, 32, 118, 119, 120, 5, 121, 122, 123, 124, 125, 33, 29, 31, 126, 127, 128, 129, 130, 131, 132, 30, 187, 188, 189, 190, 191, 192, 193, 194, 195, 196] (by decide +kernel) (by decide +kernel)
set_option maxRecDepth 20000 in
theorem gL_law_X1_commit : GoodIn wsL_law (wsV RL 36 RX1 yX1_commit wsX1_commit) := goodIn_app (goodIn_of _ (by decide +kernel)) ggL_law_X1_commit
set_option maxRecDepth 20000 in
theorem ggL_law_X0_revert : GoodIn wsL_law wsX0_revert := goodIn_r _ [136, 19, 137, 138, 139, 2, 140, 14, 13, 98, 99, 100, 101, 102, 103, 104, 105, 17, 177, 178, 179, 180, 181, 182, 183, 184, 185, 186] (by decide +kernel) (by decide +kernel)
set_option maxRecDepth 20000 in
theorem gL_law_X0_revert : GoodIn wsL_law (wsV RL 37 RX0 yX0_revert wsX0_revert) := goodIn_app (goodIn_of _ (by decide +kernel)) ggL_law_X0_revert
set_option maxRecDepth 20000 in
theorem ggL_law_X1_revert : GoodIn wsL_law wsX1_revert := goodIn_r _ [144, 48, 145, 146, 147, 5, 148, 30, 29, 32, 126, 127, 128, 187, 188, 189, 190, 191, 192, 193, 194, 195, 196] (by decide +kernel) (by decide +kernel)
set_option maxRecDepth 20000 in
theorem gL_law_X1_revert : GoodIn wsL_law (wsV RL 40 RX1 yX1_revert wsX1_revert) := goodIn_app (goodIn_of _ (by decide +kernel)) ggL_law_X1_revert
set_option maxRecDepth 20000 in
theorem ggL_law_X0_cut : GoodIn wsL_law wsX0_cut := goodIn_r _ [152, 19, 22, 23, 177, 178, 179, 180, 181, 182, 183, 184, 185, 186] (by decide +kernel) (by decide +kernel)
set_option maxRecDepth 20000 in
theorem gL_law_X0_cut : GoodIn wsL_law (wsV RL 41 RX0 yX0_cut wsX0_cut) := goodIn_app (goodIn_of _ (by decide +kernel)) ggL_law_X0_cut
set_option maxRecDepth 20000 in
theorem ggL_law_X1_cut : GoodIn wsL_law wsX1_cut := goodIn_r _ [156, 48, 115, 116, 52, 53, 5, 54, 187, 188, 189, 190, 191, 192, 193, 194, 195, 196] (by decide +kernel) (by decide +kernel)
set_option maxRecDepth 20000 in
theorem gL_law_X1_cut : GoodIn wsL_law (wsV RL 45 RX1 yX1_cut wsX1_cut) := goodIn_app (goodIn_of _ (by decide +kernel)) ggL_law_X1_cut
set_option maxRecDepth 20000 in
theorem ggL_law_X0_start : GoodIn wsL_law wsX0_start := goodIn_r _ [160, 19, 20, 21, 106, 107, 108, 2, 109, 18, 15, 14, 95, 96, 97, 98, 99, 100, 101, 137, 138, 139, 140, 13, 102, 103, 104, 105, 17, 177, 178, 179, 180, 181, 182, 183, 184, 185, 186] (by decide +kernel) (by decide +kernel)
set_option maxRecDepth 20000 in
theorem gL_law_X0_start : GoodIn wsL_law (wsV RL 46 RX0 yX0_start wsX0_start) := goodIn_app (goodIn_of _ (by decide +kernel)) ggL_law_X0_start
set_option maxRecDepth 20000 in
theorem ggL_law_X1_start : GoodIn wsL_law wsX1_start := goodIn_r _ [164, 48, 117, 52, 53, 5, 54, 165, 166, 167, 168, 33, 129, 130, 131, 132, 31, 30, 126, 127, 128, 145, 146, 147, 148, 29, 32, 187, 188, 189, 190, 191, 192, 193, 194, 195, 196] (by decide +kernel) (by decide +kernel)
set_option maxRecDepth 20000 in
theorem gL_law_X1_start : GoodIn wsL_law (wsV RL 49 RX1 yX1_start wsX1_start) := goodIn_app (goodIn_of _ (by decide +kernel)) ggL_law_X1_start
set_option maxRecDepth 20000 in
theorem ggL_law_X0_state : GoodIn wsL_law wsX0_state := goodIn_r _ [172, 19, 20, 21, 177, 178, 179, 180, 181, 182, 183, 184, 185, 186] (by decide +kernel) (by decide +kernel)
set_option maxRecDepth 20000 in
theorem gL_law_X0_state : GoodIn wsL_law (wsV RL 50 RX0 yX0_state wsX0_state) := goodIn_app (goodIn_of _ (by decide +kernel)) ggL_law_X0_state
set_option maxRecDepth 20000 in
theorem ggL_law_X1_state : GoodIn wsL_law wsX1_state := goodIn_r _ [176, 48, 117, 114, 187, 188, 189, 190, 191, 192, 193, 194, 195, 196] (by decide +kernel) (by decide +kernel)
set_option maxRecDepth 20000 in
theorem gL_law_X1_state : GoodIn wsL_law (wsV RL 54 RX1 yX1_state wsX1_state) := goodIn_app (goodIn_of _ (by decide +kernel)) ggL_law_X1_state
theorem dL_law_0 : decode cL_law 0 = .ok (.new 7, 3) := by decide +kernel
theorem dL_law_3 : decode cL_law 3 = .ok (.dup, 1) := by decide +kernel
theorem dL_law_4 : decode cL_law 4 = .ok (.invokespecial 9, 3) := by decide +kernel
theorem dL_law_7 : decode cL_law 7 = .ok (.astore_n 1, 1) := by decide +kernel
theorem dL_law_8 : decode cL_law 8 = .ok (.new 10, 3) := by decide +kernel
theorem dL_law_11 : decode cL_law 11 = .ok (.dup, 1) := by decide +kernel
theorem dL_law_12 : decode cL_law 12 = .ok (.invokespecial 12, 3) := by decide +kernel
theorem dL_law_15 : decode cL_law 15 = .ok (.astore_n 2, 1) := by decide +kernel
theorem dL_law_16 : decode cL_law 16 = .ok (.iconst 0, 1) := by decide +kernel
theorem dL_law_17 : decode cL_law 17 = .ok (.istore_n 3, 1) := by decide +kernel
theorem dL_law_18 : decode cL_law 18 = .ok (.iload_n 3, 1) := by decide +kernel
theorem dL_law_19 : decode cL_law 19 = .ok (.aload_n 0, 1) := by decide +kernel
theorem dL_law_20 : decode cL_law 20 = .ok (.arraylength, 1) := by decide +kernel
theorem dL_law_21 : decode cL_law 21 = .ok (.iconst 4, 1) := by decide +kernel
theorem dL_law_22 : decode cL_law 22 = .ok (.isub, 1) := by decide +kernel
theorem dL_law_23 : decode cL_law 23 = .ok (.if_icmp .gt 304, 3) := by decide +kernel
theorem dL_law_26 : decode cL_law 26 = .ok (.aload_n 0, 1) := by decide +kernel
theorem dL_law_27 : decode cL_law 27 = .ok (.iload_n 3, 1) := by decide +kernel
theorem dL_law_28 : decode cL_law 28 = .ok (.iaload, 1) := by decide +kernel
theorem dL_law_29 : decode cL_law 29 = .ok (.bipush 15, 2) := by decide +kernel
theorem dL_law_31 : decode cL_law 31 = .ok (.iand, 1) := by decide +kernel
theorem dL_law_32 : decode cL_law 32 = .ok (.tableswitch 289 0 8 #[52, 95, 128, 161, 184, 197, 210, 243, 266], 52) := by decide +kernel
theorem dL_law_84 : decode cL_law 84 = .ok (.aload_n 1, 1) := by decide +kernel
theorem dL_law_85 : decode cL_law 85 = .ok (.aload_n 0, 1) := by decide +kernel
theorem dL_law_86 : decode cL_law 86 = .ok (.iload_n 3, 1) := by decide +kernel
theorem dL_law_87 : decode cL_law 87 = .ok (.iconst 1, 1) := by decide +kernel
theorem dL_law_88 : decode cL_law 88 = .ok (.iadd, 1) := by decide +kernel
theorem dL_law_89 : decode cL_law 89 = .ok (.iaload, 1) := by decide +kernel
theorem dL_law_90 : decode cL_law 90 = .ok (.aload_n 0, 1) := by decide +kernel
theorem dL_law_91 : decode cL_law 91 = .ok (.iload_n 3, 1) := by decide +kernel
theorem dL_law_92 : decode cL_law 92 = .ok (.iconst 2, 1) := by decide +kernel
theorem dL_law_93 : decode cL_law 93 = .ok (.iadd, 1) := by decide +kernel
theorem dL_law_94 : decode cL_law 94 = .ok (.iaload, 1) := by decide +kernel
theorem dL_law_95 : decode cL_law 95 = .ok (.aload_n 0, 1) := by decide +kernel
theorem dL_law_96 : decode cL_law 96 = .ok (.iload_n 3, 1) := by decide +kernel
theorem dL_law_97 : decode cL_law 97 = .ok (.iconst 3, 1) := by decide +kernel
theorem dL_law_98 : decode cL_law 98 = .ok (.iadd, 1) := by decide +kernel
theorem dL_law_99 : decode cL_law 99 = .ok (.iaload, 1) := by decide +kernel
theorem dL_law_100 : decode cL_law 100 = .ok (.invokevirtual 13, 3) := by decide +kernel
theorem dL_law_103 : decode cL_law 103 = .ok (.aload_n 2, 1) := by decide +kernel
theorem dL_law_104 : decode cL_law 104 = .ok (.aload_n 0, 1) := by decide +kernel
theorem dL_law_105 : decode cL_law 105 = .ok (.iload_n 3, 1) := by decide +kernel
theorem dL_law_106 : decode cL_law 106 = .ok (.iconst 1, 1) := by decide +kernel
theorem dL_law_107 : decode cL_law 107 = .ok (.iadd, 1) := by decide +kernel
theorem dL_law_108 : decode cL_law 108 = .ok (.iaload, 1) := by decide +kernel
theorem dL_law_109 : decode cL_law 109 = .ok (.aload_n 0, 1) := by decide +kernel
theorem dL_law_110 : decode cL_law 110 = .ok (.iload_n 3, 1) := by decide +kernel
theorem dL_law_111 : decode cL_law 111 = .ok (.iconst 2, 1) := by decide +kernel
theorem dL_law_112 : decode cL_law 112 = .ok (.iadd, 1) := by decide +kernel
theorem dL_law_113 : decode cL_law 113 = .ok (.iaload, 1) := by decide +kernel
theorem dL_law_114 : decode cL_law 114 = .ok (.aload_n 0, 1) := by decide +kernel
theorem dL_law_115 : decode cL_law 115 = .ok (.iload_n 3, 1) := by decide +kernel
theorem dL_law_116 : decode cL_law 116 = .ok (.iconst 3, 1) := by decide +kernel
theorem dL_law_117 : decode cL_law 117 = .ok (.iadd, 1) := by decide +kernel
theorem dL_law_118 : decode cL_law 118 = .ok (.iaload, 1) := by decide +kernel
theorem dL_law_119 : decode cL_law 119 = .ok (.invokevirtual 17, 3) := by decide +kernel
theorem dL_law_122 : decode cL_law 122 = .ok (.if_icmp .eq 199, 3) := by decide +kernel
theorem dL_law_125 : decode cL_law 125 = .ok (.iconst 0, 1) := by decide +kernel
theorem dL_law_126 : decode cL_law 126 = .ok (.ireturn, 1) := by decide +kernel
theorem dL_law_127 : decode cL_law 127 = .ok (.aload_n 1, 1) := by decide +kernel
theorem dL_law_128 : decode cL_law 128 = .ok (.aload_n 0, 1) := by decide +kernel
theorem dL_law_129 : decode cL_law 129 = .ok (.iload_n 3, 1) := by decide +kernel
theorem dL_law_130 : decode cL_law 130 = .ok (.iconst 1, 1) := by decide +kernel
theorem dL_law_131 : decode cL_law 131 = .ok (.iadd, 1) := by decide +kernel
theorem dL_law_132 : decode cL_law 132 = .ok (.iaload, 1) := by decide +kernel
theorem dL_law_133 : decode cL_law 133 = .ok (.aload_n 0, 1) := by decide +kernel
theorem dL_law_134 : decode cL_law 134 = .ok (.iload_n 3, 1) := by decide +kernel
theorem dL_law_135 : decode cL_law 135 = .ok (.iconst 2, 1) := by decide +kernel
theorem dL_law_136 : decode cL_law 136 = .ok (.iadd, 1) := by decide +kernel
theorem dL_law_137 : decode cL_law 137 = .ok (.iaload, 1) := by decide +kernel
theorem dL_law_138 : decode cL_law 138 = .ok (.invokevirtual 18, 3) := by decide +kernel
theorem dL_law_141 : decode cL_law 141 = .ok (.aload_n 2, 1) := by decide +kernel
theorem dL_law_142 : decode cL_law 142 = .ok (.aload_n 0, 1) := by decide +kernel
theorem dL_law_143 : decode cL_law 143 = .ok (.iload_n 3, 1) := by decide +kernel
theorem dL_law_144 : decode cL_law 144 = .ok (.iconst 1, 1) := by decide +kernel
theorem dL_law_145 : decode cL_law 145 = .ok (.iadd, 1) := by decide +kernel
theorem dL_law_146 : decode cL_law 146 = .ok (.iaload, 1) := by decide +kernel
theorem dL_law_147 : decode cL_law 147 = .ok (.aload_n 0, 1) := by decide +kernel
theorem dL_law_148 : decode cL_law 148 = .ok (.iload_n 3, 1) := by decide +kernel
theorem dL_law_149 : decode cL_law 149 = .ok (.iconst 2, 1) := by decide +kernel
theorem dL_law_150 : decode cL_law 150 = .ok (.iadd, 1) := by decide +kernel
theorem dL_law_151 : decode cL_law 151 = .ok (.iaload, 1) := by decide +kernel
theorem dL_law_152 : decode cL_law 152 = .ok (.invokevirtual 22, 3) := by decide +kernel
theorem dL_law_155 : decode cL_law 155 = .ok (.if_icmp .eq 166, 3) := by decide +kernel
theorem dL_law_158 : decode cL_law 158 = .ok (.iconst 0, 1) := by decide +kernel
theorem dL_law_159 : decode cL_law 159 = .ok (.ireturn, 1) := by decide +kernel
theorem dL_law_160 : decode cL_law 160 = .ok (.aload_n 1, 1) := by decide +kernel
theorem dL_law_161 : decode cL_law 161 = .ok (.aload_n 0, 1) := by decide +kernel
theorem dL_law_162 : decode cL_law 162 = .ok (.iload_n 3, 1) := by decide +kernel
theorem dL_law_163 : decode cL_law 163 = .ok (.iconst 1, 1) := by decide +kernel
theorem dL_law_164 : decode cL_law 164 = .ok (.iadd, 1) := by decide +kernel
theorem dL_law_165 : decode cL_law 165 = .ok (.iaload, 1) := by decide +kernel
theorem dL_law_166 : decode cL_law 166 = .ok (.aload_n 0, 1) := by decide +kernel
theorem dL_law_167 : decode cL_law 167 = .ok (.iload_n 3, 1) := by decide +kernel
theorem dL_law_168 : decode cL_law 168 = .ok (.iconst 2, 1) := by decide +kernel
theorem dL_law_169 : decode cL_law 169 = .ok (.iadd, 1) := by decide +kernel
theorem dL_law_170 : decode cL_law 170 = .ok (.iaload, 1) := by decide +kernel
theorem dL_law_171 : decode cL_law 171 = .ok (.invokevirtual 23, 3) := by decide +kernel
theorem dL_law_174 : decode cL_law 174 = .ok (.aload_n 2, 1) := by decide +kernel
theorem dL_law_175 : decode cL_law 175 = .ok (.aload_n 0, 1) := by decide +kernel
theorem dL_law_176 : decode cL_law 176 = .ok (.iload_n 3, 1) := by decide +kernel
theorem dL_law_177 : decode cL_law 177 = .ok (.iconst 1, 1) := by decide +kernel
theorem dL_law_178 : decode cL_law 178 = .ok (.iadd, 1) := by decide +kernel
theorem dL_law_179 : decode cL_law 179 = .ok (.iaload, 1) := by decide +kernel
theorem dL_law_180 : decode cL_law 180 = .ok (.aload_n 0, 1) := by decide +kernel
theorem dL_law_181 : decode cL_law 181 = .ok (.iload_n 3, 1) := by decide +kernel
theorem dL_law_182 : decode cL_law 182 = .ok (.iconst 2, 1) := by decide +kernel
theorem dL_law_183 : decode cL_law 183 = .ok (.iadd, 1) := by decide +kernel
theorem dL_law_184 : decode cL_law 184 = .ok (.iaload, 1) := by decide +kernel
theorem dL_law_185 : decode cL_law 185 = .ok (.invokevirtual 26, 3) := by decide +kernel
theorem dL_law_188 : decode cL_law 188 = .ok (.if_icmp .eq 133, 3) := by decide +kernel
theorem dL_law_191 : decode cL_law 191 = .ok (.iconst 0, 1) := by decide +kernel
theorem dL_law_192 : decode cL_law 192 = .ok (.ireturn, 1) := by decide +kernel
theorem dL_law_193 : decode cL_law 193 = .ok (.aload_n 1, 1) := by decide +kernel
theorem dL_law_194 : decode cL_law 194 = .ok (.aload_n 0, 1) := by decide +kernel
theorem dL_law_195 : decode cL_law 195 = .ok (.iload_n 3, 1) := by decide +kernel
theorem dL_law_196 : decode cL_law 196 = .ok (.iconst 1, 1) := by decide +kernel
theorem dL_law_197 : decode cL_law 197 = .ok (.iadd, 1) := by decide +kernel
theorem dL_law_198 : decode cL_law 198 = .ok (.iaload, 1) := by decide +kernel
theorem dL_law_199 : decode cL_law 199 = .ok (.invokevirtual 27, 3) := by decide +kernel
theorem dL_law_202 : decode cL_law 202 = .ok (.aload_n 2, 1) := by decide +kernel
theorem dL_law_203 : decode cL_law 203 = .ok (.aload_n 0, 1) := by decide +kernel
theorem dL_law_204 : decode cL_law 204 = .ok (.iload_n 3, 1) := by decide +kernel
theorem dL_law_205 : decode cL_law 205 = .ok (.iconst 1, 1) := by decide +kernel
theorem dL_law_206 : decode cL_law 206 = .ok (.iadd, 1) := by decide +kernel
theorem dL_law_207 : decode cL_law 207 = .ok (.iaload, 1) := by decide +kernel
theorem dL_law_208 : decode cL_law 208 = .ok (.invokevirtual 31, 3) := by decide +kernel
theorem dL_law_211 : decode cL_law 211 = .ok (.if_icmp .eq 110, 3) := by decide +kernel
theorem dL_law_214 : decode cL_law 214 = .ok (.iconst 0, 1) := by decide +kernel
theorem dL_law_215 : decode cL_law 215 = .ok (.ireturn, 1) := by decide +kernel
theorem dL_law_216 : decode cL_law 216 = .ok (.aload_n 1, 1) := by decide +kernel
theorem dL_law_217 : decode cL_law 217 = .ok (.invokevirtual 32, 3) := by decide +kernel
theorem dL_law_220 : decode cL_law 220 = .ok (.aload_n 2, 1) := by decide +kernel
theorem dL_law_221 : decode cL_law 221 = .ok (.invokevirtual 36, 3) := by decide +kernel
theorem dL_law_224 : decode cL_law 224 = .ok (.if_icmp .eq 97, 3) := by decide +kernel
theorem dL_law_227 : decode cL_law 227 = .ok (.iconst 0, 1) := by decide +kernel
theorem dL_law_228 : decode cL_law 228 = .ok (.ireturn, 1) := by decide +kernel
theorem dL_law_229 : decode cL_law 229 = .ok (.aload_n 1, 1) := by decide +kernel
theorem dL_law_230 : decode cL_law 230 = .ok (.invokevirtual 37, 3) := by decide +kernel
theorem dL_law_233 : decode cL_law 233 = .ok (.aload_n 2, 1) := by decide +kernel
theorem dL_law_234 : decode cL_law 234 = .ok (.invokevirtual 40, 3) := by decide +kernel
theorem dL_law_237 : decode cL_law 237 = .ok (.if_icmp .eq 84, 3) := by decide +kernel
theorem dL_law_240 : decode cL_law 240 = .ok (.iconst 0, 1) := by decide +kernel
theorem dL_law_241 : decode cL_law 241 = .ok (.ireturn, 1) := by decide +kernel
theorem dL_law_242 : decode cL_law 242 = .ok (.aload_n 1, 1) := by decide +kernel
theorem dL_law_243 : decode cL_law 243 = .ok (.aload_n 0, 1) := by decide +kernel
theorem dL_law_244 : decode cL_law 244 = .ok (.iload_n 3, 1) := by decide +kernel
theorem dL_law_245 : decode cL_law 245 = .ok (.iconst 1, 1) := by decide +kernel
theorem dL_law_246 : decode cL_law 246 = .ok (.iadd, 1) := by decide +kernel
theorem dL_law_247 : decode cL_law 247 = .ok (.iaload, 1) := by decide +kernel
theorem dL_law_248 : decode cL_law 248 = .ok (.aload_n 0, 1) := by decide +kernel
theorem dL_law_249 : decode cL_law 249 = .ok (.iload_n 3, 1) := by decide +kernel
theorem dL_law_250 : decode cL_law 250 = .ok (.iconst 2, 1) := by decide +kernel
theorem dL_law_251 : decode cL_law 251 = .ok (.iadd, 1) := by decide +kernel
theorem dL_law_252 : decode cL_law 252 = .ok (.iaload, 1) := by decide +kernel
theorem dL_law_253 : decode cL_law 253 = .ok (.invokevirtual 41, 3) := by decide +kernel
theorem dL_law_256 : decode cL_law 256 = .ok (.aload_n 2, 1) := by decide +kernel
theorem dL_law_257 : decode cL_law 257 = .ok (.aload_n 0, 1) := by decide +kernel
theorem dL_law_258 : decode cL_law 258 = .ok (.iload_n 3, 1) := by decide +kernel
theorem dL_law_259 : decode cL_law 259 = .ok (.iconst 1, 1) := by decide +kernel
theorem dL_law_260 : decode cL_law 260 = .ok (.iadd, 1) := by decide +kernel
theorem dL_law_261 : decode cL_law 261 = .ok (.iaload, 1) := by decide +kernel
theorem dL_law_262 : decode cL_law 262 = .ok (.aload_n 0, 1) := by decide +kernel
theorem dL_law_263 : decode cL_law 263 = .ok (.iload_n 3, 1) := by decide +kernel
theorem dL_law_264 : decode cL_law 264 = .ok (.iconst 2, 1) := by decide +kernel
theorem dL_law_265 : decode cL_law 265 = .ok (.iadd, 1) := by decide +kernel
theorem dL_law_266 : decode cL_law 266 = .ok (.iaload, 1) := by decide +kernel
theorem dL_law_267 : decode cL_law 267 = .ok (.invokevirtual 45, 3) := by decide +kernel
theorem dL_law_270 : decode cL_law 270 = .ok (.if_icmp .eq 51, 3) := by decide +kernel
theorem dL_law_273 : decode cL_law 273 = .ok (.iconst 0, 1) := by decide +kernel
theorem dL_law_274 : decode cL_law 274 = .ok (.ireturn, 1) := by decide +kernel
theorem dL_law_275 : decode cL_law 275 = .ok (.aload_n 1, 1) := by decide +kernel
theorem dL_law_276 : decode cL_law 276 = .ok (.aload_n 0, 1) := by decide +kernel
theorem dL_law_277 : decode cL_law 277 = .ok (.iload_n 3, 1) := by decide +kernel
theorem dL_law_278 : decode cL_law 278 = .ok (.iconst 1, 1) := by decide +kernel
theorem dL_law_279 : decode cL_law 279 = .ok (.iadd, 1) := by decide +kernel
theorem dL_law_280 : decode cL_law 280 = .ok (.iaload, 1) := by decide +kernel
theorem dL_law_281 : decode cL_law 281 = .ok (.invokevirtual 46, 3) := by decide +kernel
theorem dL_law_284 : decode cL_law 284 = .ok (.aload_n 2, 1) := by decide +kernel
theorem dL_law_285 : decode cL_law 285 = .ok (.aload_n 0, 1) := by decide +kernel
theorem dL_law_286 : decode cL_law 286 = .ok (.iload_n 3, 1) := by decide +kernel
theorem dL_law_287 : decode cL_law 287 = .ok (.iconst 1, 1) := by decide +kernel
theorem dL_law_288 : decode cL_law 288 = .ok (.iadd, 1) := by decide +kernel
theorem dL_law_289 : decode cL_law 289 = .ok (.iaload, 1) := by decide +kernel
theorem dL_law_290 : decode cL_law 290 = .ok (.invokevirtual 49, 3) := by decide +kernel
theorem dL_law_293 : decode cL_law 293 = .ok (.if_icmp .eq 28, 3) := by decide +kernel
theorem dL_law_296 : decode cL_law 296 = .ok (.iconst 0, 1) := by decide +kernel
theorem dL_law_297 : decode cL_law 297 = .ok (.ireturn, 1) := by decide +kernel
theorem dL_law_298 : decode cL_law 298 = .ok (.aload_n 1, 1) := by decide +kernel
theorem dL_law_299 : decode cL_law 299 = .ok (.aload_n 0, 1) := by decide +kernel
theorem dL_law_300 : decode cL_law 300 = .ok (.iload_n 3, 1) := by decide +kernel
theorem dL_law_301 : decode cL_law 301 = .ok (.iconst 1, 1) := by decide +kernel
theorem dL_law_302 : decode cL_law 302 = .ok (.iadd, 1) := by decide +kernel
theorem dL_law_303 : decode cL_law 303 = .ok (.iaload, 1) := by decide +kernel
theorem dL_law_304 : decode cL_law 304 = .ok (.invokevirtual 50, 3) := by decide +kernel
theorem dL_law_307 : decode cL_law 307 = .ok (.aload_n 2, 1) := by decide +kernel
theorem dL_law_308 : decode cL_law 308 = .ok (.aload_n 0, 1) := by decide +kernel
theorem dL_law_309 : decode cL_law 309 = .ok (.iload_n 3, 1) := by decide +kernel
theorem dL_law_310 : decode cL_law 310 = .ok (.iconst 1, 1) := by decide +kernel
theorem dL_law_311 : decode cL_law 311 = .ok (.iadd, 1) := by decide +kernel
theorem dL_law_312 : decode cL_law 312 = .ok (.iaload, 1) := by decide +kernel
theorem dL_law_313 : decode cL_law 313 = .ok (.invokevirtual 54, 3) := by decide +kernel
theorem dL_law_316 : decode cL_law 316 = .ok (.if_icmp .eq 5, 3) := by decide +kernel
theorem dL_law_319 : decode cL_law 319 = .ok (.iconst 0, 1) := by decide +kernel
theorem dL_law_320 : decode cL_law 320 = .ok (.ireturn, 1) := by decide +kernel
theorem dL_law_321 : decode cL_law 321 = .ok (.iinc 3 4, 3) := by decide +kernel
theorem dL_law_324 : decode cL_law 324 = .ok (.goto (-306), 3) := by decide +kernel
theorem dL_law_327 : decode cL_law 327 = .ok (.iconst 1, 1) := by decide +kernel
theorem dL_law_328 : decode cL_law 328 = .ok (.ireturn, 1) := by decide +kernel
abbrev vwCl : List vw_C := [(RX0, TX0, 10), (RX1, TX1, 10)]
end
section
/-! Tools: a contract of one form, calls and returns over it. -/
def bI (b : Bool) : Int32 := if b then 1 else 0
theorem bI_t : bI true = 1 := rfl
theorem bI_f : bI false = 0 := rfl
theorem nb_bI (b : Bool) : narrow .boolean (.int (bI b)) = .int (bI b) := by cases b <;> rfl
theorem ft_bI (b : Bool) : fits .boolean (.int (bI b)) = true := by cases b <;> rfl
theorem vn_bI (b : Bool) : vp_nar .boolean (bI b) = bI b := by cases b <;> rfl
theorem ft_int (x : Int32) : fits .int (.int x) = true := rfl
theorem cl_nI {n : Nat} (h : n < 2 ^ 31) : (nI n).toNatClampNeg = n := nI_clamp h
abbrev sp_P (D : va_G) (cl : List vw_C) (tys : List (ClassId × FieldType)) (av : List Value) (w0 : va_W) (sz : Nat) : Array Value → State → Prop := va_Pc av (fun U => U.heap.size = sz ∧ va_P D cl w0 U.heap ∧ va_K D cl tys U ∧ va_D (fun _ => True) w0)
abbrev sp_Qi (D : va_G) (cl : List vw_C) (w0 w1 : va_W) (ans : Int32) (sz : Nat) : Array Value → State → Outcome → State → Prop := va_Qi (fun (r : Int32) (_ : Unit) => r = ans) (fun _ t => va_P D cl w1 t.heap ∧ va_D (va_A w0 sz) w1) (va_A w0 sz)
abbrev sp_Qv (D : va_G) (cl : List vw_C) (w0 w1 : va_W) (sz : Nat) : Array Value → State → Outcome → State → Prop := va_Qv (fun (_ : Unit) => True) (fun _ t => va_P D cl w1 t.heap ∧ va_D (va_A w0 sz) w1) (va_A w0 sz)
def ct_i (l : Launch) (y : MethodName) (ws : List Cond) (rm : Room) (D : va_G) (cl : List vw_C) (tys : List (ClassId × FieldType)) (av : List Value) (w0 w1 : va_W) (ans : Int32) : Prop :=
  ∀ sz : Nat, Met l y ws rm (sp_P D cl tys av w0 sz) (sp_Qi D cl w0 w1 ans sz) 0 0 (va_A w0 sz)
def ct_v (l : Launch) (y : MethodName) (ws : List Cond) (rm : Room) (D : va_G) (cl : List vw_C) (tys : List (ClassId × FieldType)) (av : List Value) (w0 w1 : va_W) : Prop :=
  ∀ sz : Nat, Met l y ws rm (sp_P D cl tys av w0 sz) (sp_Qv D cl w0 w1 sz) 0 0 (va_A w0 sz)
theorem ct_blind {D : va_G} {cl : List vw_C} {tys : List (ClassId × FieldType)} {av : List Value} {w0 : va_W} {sz : Nat} : FrameBlind (sp_P D cl tys av w0 sz) := fun a U g mk q => by
  obtain ⟨q0, q1, qP, qK, qD⟩ := q
  exact ⟨q0, q1, qP, va_K.moved (u := U) (U := U.calling g mk a) (Vm.Alike.refl U.vm) qK, qD⟩
theorem mp_fm {w : va_W} {is : List Nat} {wc : va_W} (h : is.map (fun i => w[i]?) = wc.map some) : is.filterMap (fun i => w[i]?) = wc := by
  have h2 := congrArg (List.filterMap id) h
  simpa [List.filterMap_map] using h2
section CT
variable {p : Program} {l : Launch} {e : Env} {R : Room} {s : State} {m : MethodId} {args : Array Value} {below : List Frame} {meth : Method} {c : Code} {H : Heap} {locs : List Loc} {cells slots : Nat} {Q : State → Prop}
variable {D : va_G} {cl : List vw_C} {tys tyc : List (ClassId × FieldType)} {A : Nat → Prop} {w wc wr w1 wn : va_W} {H0 : Heap} {ans : Int32}
variable {y : MethodName} {bytes cc : ByteArray} {maxL nL n index : Nat} {ret : Option FieldType} {ws : List Cond} {rm : Room} {Ts : List Cond} {own C : String} {b : Nat} {As rest st0 : List Value} {pc : Nat} {ls : Array Slot}
/-- the same number under another name -/
theorem tp_as {x z : Int32} (h : x = z) (k : W p l e R s m args below meth c H locs cells slots Q (F0 m pc ls (.int z :: rest))) : W p l e R s m args below meth c H locs cells slots Q (F0 m pc ls (.int x :: rest)) := by
  subst h; exact k
theorem ct_Vi (S : CallFix p m c cc nL s args Ts own) (hM : ct_i l y ws rm D cl tyc (.ref b :: As) wc w1 ans) (cw : CallW R s args own C index y bytes maxL ret ws rm 0 0 n)
    (hK : va_K D cl tys s) (hP : va_P D cl w H) (hD : va_D A w) (hS : va_S A H0 H locs) (hA : ∀ q, H0.size ≤ q → A q) (isC isR isT pm : List Nat)
    (eT : isT.filterMap (fun i => tys[i]?) = tyc) (eC : isC.map (fun i => w[i]?) = wc.map some) (nC : va_nd isC = true) (eR : isR.map (fun i => w[i]?) = wr.map some) (nR : va_nd isR = true) (dj : ∀ i ∈ isR, i ∉ isC)
    (eN : pm.map (fun i => (wr ++ w1)[i]?) = wn.map some) (nN : va_nd pm = true) (ci : Nat) {T : u_T} {N : Nat} (hc : cl[ci]? = some (C, T, N)) (q0 : Nat) {fs : List Value} (he : wc[q0]? = some (b, .inr (ci, fs)))
    (hn : As.length = n) (hsize : ls.size = nL) (hst : st0 = As.reverse ++ .ref b :: rest) (hW : (rest.map fun v => v.category).sum ≤ 8) (hdg : decode cc pc = .ok (.invokevirtual index, 3)) (hf : cells ≤ R.cells ∧ slots ≤ R.slots)
    (kk : ∀ (H1 : Heap) (locs1 : List Loc), va_P D cl wn H1 → va_D A wn → va_S A H0 H1 locs1 → W p l e R s m args below meth c H1 locs1 cells slots Q (F0 m (pc + 3) ls (.int ans :: rest))) : W p l e R s m args below meth c H locs cells slots Q (F0 m pc ls st0) := by
  have hPc := hP.sub isC (mp_fm eC)
  have hDc := hD.sub isC nC eC
  have hKc := hK.sub isT eT
  have hFc := va_free hD hS hA isC eC
  refine va_calli (va_runV S (hM H.size) cw ⟨ct_blind, va_recv hKc hPc hc he, fun U hU hW => ⟨rfl, by rw [hU], by rw [hU]; exact hPc, va_K.moved hW.alike hKc, hDc.weaken (fun _ _ _ _ => trivial)⟩⟩ rfl hn hsize hst (lv_room hW) hdg hf) hS (fun q _ h => hFc q h) hFc (fun r u t H1 locs ht hvm hw hB hz1 hk1 hS => ?_)
  obtain ⟨hP1, hD1⟩ := hB
  rw [ht] at hP1
  obtain ⟨hP, hD⟩ := va_join hP hD isC isR eC eR nR dj hk1 hFc hP1 hD1
  subst hw
  exact kk H1 _ (hP.sub pm (mp_fm eN)) (hD.sub pm nN eN) hS
theorem ct_Vv (S : CallFix p m c cc nL s args Ts own) (hM : ct_v l y ws rm D cl tyc (.ref b :: As) wc w1) (cw : CallW R s args own C index y bytes maxL ret ws rm 0 0 n)
    (hK : va_K D cl tys s) (hP : va_P D cl w H) (hD : va_D A w) (hS : va_S A H0 H locs) (hA : ∀ q, H0.size ≤ q → A q) (isC isR isT pm : List Nat)
    (eT : isT.filterMap (fun i => tys[i]?) = tyc) (eC : isC.map (fun i => w[i]?) = wc.map some) (nC : va_nd isC = true) (eR : isR.map (fun i => w[i]?) = wr.map some) (nR : va_nd isR = true) (dj : ∀ i ∈ isR, i ∉ isC)
    (eN : pm.map (fun i => (wr ++ w1)[i]?) = wn.map some) (nN : va_nd pm = true) (ci : Nat) {T : u_T} {N : Nat} (hc : cl[ci]? = some (C, T, N)) (q0 : Nat) {fs : List Value} (he : wc[q0]? = some (b, .inr (ci, fs)))
    (hn : As.length = n) (hsize : ls.size = nL) (hst : st0 = As.reverse ++ .ref b :: rest) (hW : (rest.map fun v => v.category).sum ≤ 8) (hdg : decode cc pc = .ok (.invokevirtual index, 3)) (hf : cells ≤ R.cells ∧ slots ≤ R.slots)
    (kk : ∀ (H1 : Heap) (locs1 : List Loc), va_P D cl wn H1 → va_D A wn → va_S A H0 H1 locs1 → W p l e R s m args below meth c H1 locs1 cells slots Q (F0 m (pc + 3) ls rest)) : W p l e R s m args below meth c H locs cells slots Q (F0 m pc ls st0) := by
  have hPc := hP.sub isC (mp_fm eC)
  have hDc := hD.sub isC nC eC
  have hKc := hK.sub isT eT
  have hFc := va_free hD hS hA isC eC
  refine va_callv (va_runV S (hM H.size) cw ⟨ct_blind, va_recv hKc hPc hc he, fun U hU hW => ⟨rfl, by rw [hU], by rw [hU]; exact hPc, va_K.moved hW.alike hKc, hDc.weaken (fun _ _ _ _ => trivial)⟩⟩ rfl hn hsize hst (lv_room hW) hdg hf) hS (fun q _ h => hFc q h) hFc (fun u t H1 locs ht hvm hw hB hz1 hk1 hS => ?_)
  obtain ⟨hP1, hD1⟩ := hB
  rw [ht] at hP1
  obtain ⟨hP, hD⟩ := va_join hP hD isC isR eC eR nR dj hk1 hFc hP1 hD1
  exact kk H1 _ (hP.sub pm (mp_fm eN)) (hD.sub pm nN eN) hS
theorem ct_Si (S : CallFix p m c cc nL s args Ts own) (hM : ct_i l y ws rm D cl tyc As wc w1 ans) (cw : CallB R s args own index y bytes maxL ret ws rm 0 0 n ∧ (Cond.static y).before args s = true)
    (hK : va_K D cl tys s) (hP : va_P D cl w H) (hD : va_D A w) (hS : va_S A H0 H locs) (hA : ∀ q, H0.size ≤ q → A q) (isC isR isT pm : List Nat)
    (eT : isT.filterMap (fun i => tys[i]?) = tyc) (eC : isC.map (fun i => w[i]?) = wc.map some) (nC : va_nd isC = true) (eR : isR.map (fun i => w[i]?) = wr.map some) (nR : va_nd isR = true) (dj : ∀ i ∈ isR, i ∉ isC)
    (eN : pm.map (fun i => (wr ++ w1)[i]?) = wn.map some) (nN : va_nd pm = true)
    (hn : As.length = n) (hsize : ls.size = nL) (hst : st0 = As.reverse ++ rest) (hW : (rest.map fun v => v.category).sum ≤ 8) (hdg : decode cc pc = .ok (.invokestatic index, 3)) (hf : cells ≤ R.cells ∧ slots ≤ R.slots)
    (kk : ∀ (H1 : Heap) (locs1 : List Loc), va_P D cl wn H1 → va_D A wn → va_S A H0 H1 locs1 → W p l e R s m args below meth c H1 locs1 cells slots Q (F0 m (pc + 3) ls (.int ans :: rest))) : W p l e R s m args below meth c H locs cells slots Q (F0 m pc ls st0) := by
  have hPc := hP.sub isC (mp_fm eC)
  have hDc := hD.sub isC nC eC
  have hKc := hK.sub isT eT
  have hFc := va_free hD hS hA isC eC
  refine va_calli (va_runS S (hM H.size) cw ⟨ct_blind, fun U hU hW => ⟨rfl, by rw [hU], by rw [hU]; exact hPc, va_K.moved hW.alike hKc, hDc.weaken (fun _ _ _ _ => trivial)⟩⟩ rfl hn hsize hst (lv_room hW) hdg hf) hS (fun q _ h => hFc q h) hFc (fun r u t H1 locs ht hvm hw hB hz1 hk1 hS => ?_)
  obtain ⟨hP1, hD1⟩ := hB
  rw [ht] at hP1
  obtain ⟨hP, hD⟩ := va_join hP hD isC isR eC eR nR dj hk1 hFc hP1 hD1
  subst hw
  exact kk H1 _ (hP.sub pm (mp_fm eN)) (hD.sub pm nN eN) hS
theorem ct_Sv (S : CallFix p m c cc nL s args Ts own) (hM : ct_v l y ws rm D cl tyc As wc w1) (cw : CallB R s args own index y bytes maxL ret ws rm 0 0 n ∧ (Cond.static y).before args s = true)
    (hK : va_K D cl tys s) (hP : va_P D cl w H) (hD : va_D A w) (hS : va_S A H0 H locs) (hA : ∀ q, H0.size ≤ q → A q) (isC isR isT pm : List Nat)
    (eT : isT.filterMap (fun i => tys[i]?) = tyc) (eC : isC.map (fun i => w[i]?) = wc.map some) (nC : va_nd isC = true) (eR : isR.map (fun i => w[i]?) = wr.map some) (nR : va_nd isR = true) (dj : ∀ i ∈ isR, i ∉ isC)
    (eN : pm.map (fun i => (wr ++ w1)[i]?) = wn.map some) (nN : va_nd pm = true)
    (hn : As.length = n) (hsize : ls.size = nL) (hst : st0 = As.reverse ++ rest) (hW : (rest.map fun v => v.category).sum ≤ 8) (hdg : decode cc pc = .ok (.invokestatic index, 3)) (hf : cells ≤ R.cells ∧ slots ≤ R.slots)
    (kk : ∀ (H1 : Heap) (locs1 : List Loc), va_P D cl wn H1 → va_D A wn → va_S A H0 H1 locs1 → W p l e R s m args below meth c H1 locs1 cells slots Q (F0 m (pc + 3) ls rest)) : W p l e R s m args below meth c H locs cells slots Q (F0 m pc ls st0) := by
  have hPc := hP.sub isC (mp_fm eC)
  have hDc := hD.sub isC nC eC
  have hKc := hK.sub isT eT
  have hFc := va_free hD hS hA isC eC
  refine va_callv (va_runS S (hM H.size) cw ⟨ct_blind, fun U hU hW => ⟨rfl, by rw [hU], by rw [hU]; exact hPc, va_K.moved hW.alike hKc, hDc.weaken (fun _ _ _ _ => trivial)⟩⟩ rfl hn hsize hst (lv_room hW) hdg hf) hS (fun q _ h => hFc q h) hFc (fun u t H1 locs ht hvm hw hB hz1 hk1 hS => ?_)
  obtain ⟨hP1, hD1⟩ := hB
  rw [ht] at hP1
  obtain ⟨hP, hD⟩ := va_join hP hD isC isR eC eR nR dj hk1 hFc hP1 hD1
  exact kk H1 _ (hP.sub pm (mp_fm eN)) (hD.sub pm nN eN) hS
/-- returns -/
theorem rt_i {v : Int32} {ty : FieldType} {w0 : va_W} {sz : Nat} (hx : p.tables.exec = Jvm.exec) (hb : c.code = cc) (hr : meth.sig.returnType = some ty) (hlk : meth.locks = false) (hP : va_P D cl w1 H) (hD : va_D (va_A w0 sz) w1) (hS : va_S (va_A w0 sz) s.heap H locs) (hn : narrow ty (.int v) = .int v) (hv : v = ans) (hdg : decode cc pc = .ok (.ireturn, 1)) :
    W p l e R s m args below meth c H locs 0 0 (MQ below (sp_Qi D cl w0 w1 ans sz) args s 0 0 (va_A w0 sz)) (F0 m pc ls [.int v]) :=
  W.zret hx hb hr hn (fun t ht _ => ⟨⟨v, (), rfl, hv, by rw [ht]; exact hP, hD⟩, hS.F ht⟩) hS.2.2 hdg hlk
theorem rt_v {w0 : va_W} {sz : Nat} (hx : p.tables.exec = Jvm.exec) (hb : c.code = cc) (hr : meth.sig.returnType = none) (hlk : meth.locks = false) (hP : va_P D cl w1 H) (hD : va_D (va_A w0 sz) w1) (hS : va_S (va_A w0 sz) s.heap H locs) (hdg : decode cc pc = .ok (.return_, 1)) :
    W p l e R s m args below meth c H locs 0 0 (MQ below (sp_Qv D cl w0 w1 sz) args s 0 0 (va_A w0 sz)) (F0 m pc ls []) :=
  W.vret hx hb hr (fun t ht _ => ⟨⟨(), rfl, trivial, by rw [ht]; exact hP, hD⟩, hS.F ht⟩) hS.2.2 hdg hlk
end CT
/-- a contract out of a walk of the method's body: the end of the walk is a hypothesis -/
theorem ct_i.of {l : Launch} {y : MethodName} {ws ws' : List Cond} {rm : Room} {D : va_G} {cl : List vw_C} {tys : List (ClassId × FieldType)} {av : List Value} {w0 w1 : va_W} {ans : Int32} {cc : ByteArray} {maxL : Nat} {ty : FieldType} (hy : plainName y.cls = true) (hw : ws = Cond.code y cc maxL (some ty) :: ws') (hlen : (lg_sl av).length ≤ maxL) (hnr : narrow ty (.int ans) = .int ans)
    (body : ∀ (p : Program) (e : Env) (s : State) (m : MethodId) (args : Array Value) (below : List Frame) (meth : Method) (c : Code) (ls : Array Slot) (A : Nat → Prop) (Q : State → Prop), p.tables.exec = Jvm.exec → c.code = cc → c.maxLocals = maxL → (∀ w ∈ ws, w.before args s = true) → s.vm.findClass y.cls = some m.cls → va_K D cl tys s → va_P D cl w0 s.heap → va_D A w0 → (∀ q : Nat, s.heap.size ≤ q → A q) → va_S A s.heap s.heap [] → lv_has ls maxL (lv_args 0 av) →
      (∀ (H : Heap) (locs : List Loc) (v : Int32) (pc : Nat) (ls : Array Slot), va_P D cl w1 H → va_D A w1 → va_S A s.heap H locs → v = ans → decode cc pc = .ok (.ireturn, 1) → W p l e rm s m args below meth c H locs 0 0 Q (F0 m pc ls [.int v])) →
      W p l e rm s m args below meth c s.heap [] 0 0 Q (F0 m 0 ls [])) : ct_i l y ws rm D cl tys av w0 w1 ans := by
  intro sz
  refine Met.ofW (cc := cc) (maxL := maxL) (ret := some ty) hy hw ?_
  intro p e s m args below meth c s₁ B hml hv
  obtain ⟨rfl, hsz, hP, hK, hD0⟩ := hv
  subst hsz
  have hl := lv_entry av (n := maxL) hlen
  rw [lg_entry_eq]
  exact body p e s m _ below meth c _ _ _ B.exec B.bytes hml (atoms_spec (ws := ws) B.pre) (findClass_of_methodNamed B.named) hK hP (hD0.self (sz := s.heap.size)) (fun q h => Or.inr h) va_S.rf hl (fun H locs v pc ls hP hD hS hv hdg => rt_i B.exec B.bytes B.returns B.notSynchronized hP hD hS (by rw [hv]; exact hnr) hv hdg)
theorem ct_v.of {l : Launch} {y : MethodName} {ws ws' : List Cond} {rm : Room} {D : va_G} {cl : List vw_C} {tys : List (ClassId × FieldType)} {av : List Value} {w0 w1 : va_W} {cc : ByteArray} {maxL : Nat} (hy : plainName y.cls = true) (hw : ws = Cond.code y cc maxL none :: ws') (hlen : (lg_sl av).length ≤ maxL)
    (body : ∀ (p : Program) (e : Env) (s : State) (m : MethodId) (args : Array Value) (below : List Frame) (meth : Method) (c : Code) (ls : Array Slot) (A : Nat → Prop) (Q : State → Prop), p.tables.exec = Jvm.exec → c.code = cc → c.maxLocals = maxL → (∀ w ∈ ws, w.before args s = true) → s.vm.findClass y.cls = some m.cls → va_K D cl tys s → va_P D cl w0 s.heap → va_D A w0 → (∀ q : Nat, s.heap.size ≤ q → A q) → va_S A s.heap s.heap [] → lv_has ls maxL (lv_args 0 av) →
      (∀ (H : Heap) (locs : List Loc) (pc : Nat) (ls : Array Slot), va_P D cl w1 H → va_D A w1 → va_S A s.heap H locs → decode cc pc = .ok (.return_, 1) → W p l e rm s m args below meth c H locs 0 0 Q (F0 m pc ls [])) →
      W p l e rm s m args below meth c s.heap [] 0 0 Q (F0 m 0 ls [])) : ct_v l y ws rm D cl tys av w0 w1 := by
  intro sz
  refine Met.ofW (cc := cc) (maxL := maxL) (ret := none) hy hw ?_
  intro p e s m args below meth c s₁ B hml hv
  obtain ⟨rfl, hsz, hP, hK, hD0⟩ := hv
  subst hsz
  have hl := lv_entry av (n := maxL) hlen
  rw [lg_entry_eq]
  exact body p e s m _ below meth c _ _ _ B.exec B.bytes hml (atoms_spec (ws := ws) B.pre) (findClass_of_methodNamed B.named) hK hP (hD0.self (sz := s.heap.size)) (fun q h => Or.inr h) va_S.rf hl (fun H locs pc ls hP hD hS hdg => rt_v B.exec B.bytes B.returns B.notSynchronized hP hD hS hdg)
end
section
/-! The class's words: counting, the log, the disk, as functions. -/
def ix (n : Nat) (x : Int32) : Option Nat := if x < 0 then none else if nI n ≤ x then none else some x.toNatClampNeg
theorem ix_nI {n j : Nat} (h : j < n) (hn : n < 2 ^ 31) : ix n (nI j) = some j := by
  have h1 : ¬ nI j < 0 := nI_pos (by omega)
  have h2 : ¬ nI n ≤ nI j := nI_ge h hn
  simp [ix, h1, h2, nI_clamp (show j < 2 ^ 31 by omega)]
theorem ix_cases (n : Nat) (hn : n < 2 ^ 31) (x : Int32) : (ix n x = none ∧ (x < 0 ∨ nI n ≤ x)) ∨ ∃ j : Nat, j < n ∧ x = nI j ∧ ix n x = some j := by
  rcases pk_ix x hn with h | h | ⟨j, hj, rfl⟩
  · exact Or.inl ⟨by simp [ix, h], Or.inl h⟩
  · refine Or.inl ⟨?_, Or.inr h⟩
    by_cases h0 : x < 0
    · simp [ix, h0]
    · simp [ix, h0, h]
  · exact Or.inr ⟨j, hj, rfl, ix_nI hj hn⟩
def cnt (dz : Nat → Bool) : Nat → Nat
  | 0 => 0
  | k + 1 => cnt dz k + (if dz k = true then 1 else 0)
theorem cnt_le (dz : Nat → Bool) : ∀ k, cnt dz k ≤ k
  | 0 => Nat.le_refl 0
  | k + 1 => by
    have h := cnt_le dz k
    simp only [cnt]
    split <;> omega
theorem cnt_t {dz : Nat → Bool} {k : Nat} (h : dz k = true) : cnt dz (k + 1) = cnt dz k + 1 := by simp [cnt, h]
theorem cnt_f {dz : Nat → Bool} {k : Nat} (h : dz k = false) : cnt dz (k + 1) = cnt dz k := by simp [cnt, h]
theorem cnt_mono (dz : Nat → Bool) {a : Nat} : ∀ n, cnt dz a ≤ cnt dz (a + n)
  | 0 => Nat.le_refl _
  | n + 1 => by
    have h := cnt_mono dz (a := a) n
    show cnt dz a ≤ cnt dz (a + n + 1)
    simp only [cnt]
    omega
/-- the first mo of the blocks of z, of the first k, copied from f over g -/
def lx (f : Nat → Int32) (z : Nat → Bool) (mo : Nat) (g : Nat → Int32) : Nat → Nat → Int32
  | 0 => g
  | k + 1 => if z k = true ∧ cnt z k < mo then va_cpy f (lx f z mo g k) (k * 16) (k * 16) 16 else lx f z mo g k
/-- how many of them -/
def cm (z : Nat → Bool) (mo : Nat) : Nat → Nat
  | 0 => 0
  | k + 1 => if z k = true ∧ cnt z k < mo then cm z mo k + 1 else cm z mo k
/-- which of them -/
def lqK (z : Nat → Bool) (mo : Nat) (lq : Nat → Bool) (k : Nat) : Nat → Bool := fun j => if j < k then z j && decide (cnt z j < mo) else lq j
section LX
variable {f g : Nat → Int32} {z lq : Nat → Bool} {mo k : Nat}
theorem lx_y (h : z k = true ∧ cnt z k < mo) : lx f z mo g (k + 1) = va_cpy f (lx f z mo g k) (k * 16) (k * 16) 16 := by
  simp only [lx]; rw [if_pos h]
theorem lx_n (h : ¬ (z k = true ∧ cnt z k < mo)) : lx f z mo g (k + 1) = lx f z mo g k := by
  simp only [lx]; rw [if_neg h]
theorem lx_stop (h : mo ≤ cnt z k) : ∀ n, lx f z mo g (k + n) = lx f z mo g k
  | 0 => rfl
  | n + 1 => by
    have e := lx_stop h n
    have h2 := cnt_mono z (a := k) n
    show lx f z mo g (k + n + 1) = _
    rw [lx_n (fun q => absurd q.2 (by omega)), e]
theorem cm_y (h : z k = true ∧ cnt z k < mo) : cm z mo (k + 1) = cm z mo k + 1 := by
  simp only [cm]; rw [if_pos h]
theorem cm_n (h : ¬ (z k = true ∧ cnt z k < mo)) : cm z mo (k + 1) = cm z mo k := by
  simp only [cm]; rw [if_neg h]
theorem cm_is (z : Nat → Bool) (mo : Nat) : ∀ k, (cnt z k < mo → cm z mo k = cnt z k) ∧ (mo ≤ cnt z k → cm z mo k = mo)
  | 0 => ⟨fun _ => rfl, fun h => by simp only [cnt] at h; simp only [cm]; omega⟩
  | k + 1 => by
    obtain ⟨h1, h2⟩ := cm_is z mo k
    cases hz : z k with
    | false =>
      rw [cm_n (fun q => absurd (hz.symm.trans q.1) (by decide)), cnt_f hz]
      exact ⟨h1, h2⟩
    | true =>
      rw [cnt_t hz]
      by_cases hc : cnt z k < mo
      · rw [cm_y ⟨hz, hc⟩, h1 hc]
        exact ⟨fun _ => rfl, fun _ => by omega⟩
      · rw [cm_n (fun q => hc q.2), h2 (by omega)]
        exact ⟨fun _ => by omega, fun _ => rfl⟩
theorem cm_le (z : Nat → Bool) (mo k : Nat) : cm z mo k ≤ k := by
  obtain ⟨h1, h2⟩ := cm_is z mo k
  have h3 := cnt_le z k
  rcases Nat.lt_or_ge (cnt z k) mo with h | h
  · rw [h1 h]; exact h3
  · rw [h2 h]; omega
theorem cm_lt : cm z mo k < mo ↔ cnt z k < mo := by
  obtain ⟨h1, h2⟩ := cm_is z mo k
  rcases Nat.lt_or_ge (cnt z k) mo with h | h
  · rw [h1 h]
  · rw [h2 h]; omega
theorem lqK_0 (z : Nat → Bool) (mo : Nat) (lq : Nat → Bool) : lqK z mo lq 0 = lq := by funext j; simp [lqK]
theorem lqK_y (h : z k = true ∧ cnt z k < mo) : va_up (lqK z mo lq k) k true = lqK z mo lq (k + 1) := by
  funext j
  simp only [va_up, lqK]
  by_cases h1 : j = k
  · subst h1; simp [h.1, h.2]
  · by_cases h2 : j < k
    · simp [h1, h2, show j < k + 1 by omega]
    · simp [h1, h2, show ¬ j < k + 1 by omega]
theorem lqK_n (h : ¬ (z k = true ∧ cnt z k < mo)) : va_up (lqK z mo lq k) k false = lqK z mo lq (k + 1) := by
  have e : (z k && decide (cnt z k < mo)) = false := by
    cases hz : z k with
    | false => rfl
    | true => rw [Bool.true_and]; exact decide_eq_false (fun q => h ⟨hz, q⟩)
  funext j
  simp only [va_up, lqK]
  by_cases h1 : j = k
  · subst h1; rw [if_pos rfl, if_pos (Nat.lt_succ_self j), e]
  · by_cases h2 : j < k
    · simp [h1, h2, show j < k + 1 by omega]
    · simp [h1, h2, show ¬ j < k + 1 by omega]
theorem lqK_ay (h : z k = true ∧ cnt z k < mo) : lqK z mo lq (k + 1) k = true := by rw [← lqK_y h]; simp [va_up]
theorem lqK_an (h : ¬ (z k = true ∧ cnt z k < mo)) : lqK z mo lq (k + 1) k = false := by rw [← lqK_n h]; simp [va_up]
end LX
def clr (dz : Nat → Bool) (n : Nat) : Nat → Bool := fun j => if j < n then false else dz j
theorem clr_0 (dz : Nat → Bool) : clr dz 0 = dz := by funext j; simp [clr]
theorem clr_s (dz : Nat → Bool) (k : Nat) : va_up (clr dz k) k false = clr dz (k + 1) := by
  funext j
  simp only [va_up, clr]
  by_cases h : j = k
  · subst h; simp
  · by_cases h2 : j < k
    · simp [h, h2, show j < k + 1 by omega]
    · simp [h, h2, show ¬ j < k + 1 by omega]
theorem up_bI (dz : Nat → Bool) (k : Nat) (b : Bool) : upd (fun j => bI (dz j)) k (bI b) = fun j => bI (va_up dz k b j) := by
  funext j
  simp only [upd, va_up]
  split <;> rfl
def tkS (cu cs : Nat) : Nat := if cu = 0 then 1000 else if cu = 1 then cs else 1000
end
section
/-! The class: its world, its leaves. -/
abbrev XW (h0 a1 a2 a3 a4 a5 : Nat) (k1 k2 k3 k4 k5 : ClassId) (fw fd fb : Nat → Int32) (lq dz : Nat → Bool) (pw mk : Bool) (lc cu cs : Nat) : va_W := [(h0, .inr (0, [.ref a1, .ref a2, .ref a3, .ref a4, .ref a5, .int (bI pw), .int (bI mk), .int (nI lc), .int (nI cu), .int (nI cs)])), (a1, .inl (k1, 384, .inl fw)), (a2, .inl (k2, 384, .inl fd)), (a3, .inl (k3, 384, .inl fb)), (a4, .inl (k4, 24, .inl (fun j => bI (dz j)))), (a5, .inl (k5, 24, .inl (fun j => bI (lq j))))]
abbrev XT (k1 k2 k3 k4 k5 : ClassId) : List (ClassId × FieldType) := [(k1, .int), (k2, .int), (k3, .int), (k4, .boolean), (k5, .boolean)]
set_option maxHeartbeats 4000000 in
set_option maxRecDepth 100000 in
theorem c0_isBlock (l : Launch) (D : va_G) (x : Int32) : ct_i l yX0_isBlock wsX0_isBlock ({ frames := 0, cells := 0, slots := 0, locals := 0 }) D vwCl [] [.int x] [] [] (bI (ix 24 x).isSome) := by
  refine ct_i.of (cc := cX0_isBlock) (maxL := 1) (ty := .boolean) (by decide) rfl (Nat.le_of_ble_eq_true rfl) (nb_bI _) ?_
  intro p e s m args below meth c ls A Q hx hb hml hts hown hK hP hD hA hS hl hret
  have hown : s.vm.findClass RX0 = some m.cls := hown
  have hl : lv_has ls 1 [(0, .int x)] := hl
  have hP : va_P D vwCl [] s.heap := hP
  have hD : va_D A [] := hD
  refine lv_iload_n hx hb dX0_isBlock_0 rfl (lv_at hl 0 rfl) ?_
  refine lv_if_lt (tgt := 14) hx hb dX0_isBlock_1 (by decide) (fun c_1 => ?_) (fun c_1 => ?_)
  · -- T of pc 1
    refine lv_iconst (v := 0) hx hb dX0_isBlock_14 (by decide) ?_
    exact hret _ _ _ _ _ hP hD hS (by have h9 : nI 24 = 24 := rfl; simp [ix, h9, bI, *]) dX0_isBlock_15
  · -- F of pc 1
    refine lv_iload_n hx hb dX0_isBlock_4 rfl (lv_at hl 0 rfl) ?_
    refine lv_bipush (v := 24) hx hb dX0_isBlock_5 (by decide) ?_
    refine lv_icmp_ge (tgt := 14) hx hb dX0_isBlock_7 (by decide) (fun c_2 => ?_) (fun c_2 => ?_)
    · -- T of pc 7
      refine lv_iconst (v := 0) hx hb dX0_isBlock_14 (by decide) ?_
      exact hret _ _ _ _ _ hP hD hS (by have h9 : nI 24 = 24 := rfl; simp [ix, h9, bI, *]) dX0_isBlock_15
    · -- F of pc 7
      refine lv_iconst (v := 1) hx hb dX0_isBlock_10 (by decide) ?_
      refine lv_goto (tgt := 15) hx hb dX0_isBlock_11 (by decide) ?_
      exact hret _ _ _ _ _ hP hD hS (by have h9 : nI 24 = 24 := rfl; simp [ix, h9, bI, *]) dX0_isBlock_15
set_option maxHeartbeats 4000000 in
set_option maxRecDepth 100000 in
theorem c0_isPlace (l : Launch) (D : va_G) (x : Int32) : ct_i l yX0_isPlace wsX0_isPlace ({ frames := 0, cells := 0, slots := 0, locals := 0 }) D vwCl [] [.int x] [] [] (bI (ix 16 x).isSome) := by
  refine ct_i.of (cc := cX0_isPlace) (maxL := 1) (ty := .boolean) (by decide) rfl (Nat.le_of_ble_eq_true rfl) (nb_bI _) ?_
  intro p e s m args below meth c ls A Q hx hb hml hts hown hK hP hD hA hS hl hret
  have hown : s.vm.findClass RX0 = some m.cls := hown
  have hl : lv_has ls 1 [(0, .int x)] := hl
  have hP : va_P D vwCl [] s.heap := hP
  have hD : va_D A [] := hD
  refine lv_iload_n hx hb dX0_isPlace_0 rfl (lv_at hl 0 rfl) ?_
  refine lv_if_lt (tgt := 14) hx hb dX0_isPlace_1 (by decide) (fun c_1 => ?_) (fun c_1 => ?_)
  · -- T of pc 1
    refine lv_iconst (v := 0) hx hb dX0_isPlace_14 (by decide) ?_
    exact hret _ _ _ _ _ hP hD hS (by have h9 : nI 16 = 16 := rfl; simp [ix, h9, bI, *]) dX0_isPlace_15
  · -- F of pc 1
    refine lv_iload_n hx hb dX0_isPlace_4 rfl (lv_at hl 0 rfl) ?_
    refine lv_bipush (v := 16) hx hb dX0_isPlace_5 (by decide) ?_
    refine lv_icmp_ge (tgt := 14) hx hb dX0_isPlace_7 (by decide) (fun c_2 => ?_) (fun c_2 => ?_)
    · -- T of pc 7
      refine lv_iconst (v := 0) hx hb dX0_isPlace_14 (by decide) ?_
      exact hret _ _ _ _ _ hP hD hS (by have h9 : nI 16 = 16 := rfl; simp [ix, h9, bI, *]) dX0_isPlace_15
    · -- F of pc 7
      refine lv_iconst (v := 1) hx hb dX0_isPlace_10 (by decide) ?_
      refine lv_goto (tgt := 15) hx hb dX0_isPlace_11 (by decide) ?_
      exact hret _ _ _ _ _ hP hD hS (by have h9 : nI 16 = 16 := rfl; simp [ix, h9, bI, *]) dX0_isPlace_15
theorem dz_f {b : Bool} (h : bI b = 0) : b = false := by cases b with | false => rfl | true => exact absurd h (by decide)
theorem dz_t {b : Bool} (h : ¬ bI b = 0) : b = true := by cases b with | true => rfl | false => exact absurd rfl h
set_option maxHeartbeats 4000000 in
set_option maxRecDepth 100000 in
theorem c0_countWritten (l : Launch) (D : va_G) (h0 a1 a2 a3 a4 a5 : Nat) (k1 k2 k3 k4 k5 : ClassId) (fw fd fb : Nat → Int32) (lq dz : Nat → Bool) (pw mk : Bool) (lc cu cs : Nat) : ct_i l yX0_countWritten wsX0_countWritten ({ frames := 0, cells := 0, slots := 0, locals := 0 }) D vwCl (XT k1 k2 k3 k4 k5) [.ref h0] (XW h0 a1 a2 a3 a4 a5 k1 k2 k3 k4 k5 fw fd fb lq dz pw mk lc cu cs) (XW h0 a1 a2 a3 a4 a5 k1 k2 k3 k4 k5 fw fd fb lq dz pw mk lc cu cs) (nI (cnt dz 24)) := by
  refine ct_i.of (cc := cX0_countWritten) (maxL := 3) (ty := .int) (by decide) rfl (Nat.le_of_ble_eq_true rfl) rfl ?_
  intro p e s m args below meth c ls A Q hx hb hml hts hown hK hP hD hA hS hl hret
  have hown : s.vm.findClass RX0 = some m.cls := hown
  have hl : lv_has ls 3 [(0, .ref h0)] := hl
  have hP : va_P D vwCl [(h0, .inr (0, [.ref a1, .ref a2, .ref a3, .ref a4, .ref a5, .int (bI pw), .int (bI mk), .int (nI lc), .int (nI cu), .int (nI cs)])), (a1, .inl (k1, 384, .inl fw)), (a2, .inl (k2, 384, .inl fd)), (a3, .inl (k3, 384, .inl fb)), (a4, .inl (k4, 24, .inl (fun j => bI (dz j)))), (a5, .inl (k5, 24, .inl (fun j => bI (lq j))))] s.heap := hP
  have hD : va_D A [(h0, .inr (0, [.ref a1, .ref a2, .ref a3, .ref a4, .ref a5, .int (bI pw), .int (bI mk), .int (nI lc), .int (nI cu), .int (nI cs)])), (a1, .inl (k1, 384, .inl fw)), (a2, .inl (k2, 384, .inl fd)), (a3, .inl (k3, 384, .inl fb)), (a4, .inl (k4, 24, .inl (fun j => bI (dz j)))), (a5, .inl (k5, 24, .inl (fun j => bI (lq j))))] := hD
  refine lv_iconst (v := 0) hx hb dX0_countWritten_0 (by decide) ?_
  refine lv_istore_n (lv' := [(1, .int 0), (0, .ref h0)]) hx hb dX0_countWritten_1 rfl hl (by decide) rfl (fun ls hl => ?_)
  refine lv_iconst (v := 0) hx hb dX0_countWritten_2 (by decide) ?_
  refine lv_istore_n (lv' := [(2, .int 0), (1, .int 0), (0, .ref h0)]) hx hb dX0_countWritten_3 rfl hl (by decide) rfl (fun ls hl => ?_)
  have loop : ∀ (n k : Nat), k + n = 24 → ∀ (ls : Array Slot) (H : Heap) (locs : List Loc), lv_has ls 3 [(2, .int (nI k)), (1, .int (nI (cnt dz k))), (0, .ref h0)] → va_P D vwCl [(h0, .inr (0, [.ref a1, .ref a2, .ref a3, .ref a4, .ref a5, .int (bI pw), .int (bI mk), .int (nI lc), .int (nI cu), .int (nI cs)])), (a1, .inl (k1, 384, .inl fw)), (a2, .inl (k2, 384, .inl fd)), (a3, .inl (k3, 384, .inl fb)), (a4, .inl (k4, 24, .inl (fun j => bI (dz j)))), (a5, .inl (k5, 24, .inl (fun j => bI (lq j))))] H → va_D A [(h0, .inr (0, [.ref a1, .ref a2, .ref a3, .ref a4, .ref a5, .int (bI pw), .int (bI mk), .int (nI lc), .int (nI cu), .int (nI cs)])), (a1, .inl (k1, 384, .inl fw)), (a2, .inl (k2, 384, .inl fd)), (a3, .inl (k3, 384, .inl fb)), (a4, .inl (k4, 24, .inl (fun j => bI (dz j)))), (a5, .inl (k5, 24, .inl (fun j => bI (lq j))))] → va_S A s.heap H locs → W p l e ({ frames := 0, cells := 0, slots := 0, locals := 0 }) s m args below meth c H locs 0 0 Q (F0 m 4 ls []) := by
    intro n
    induction n with
    | zero =>
      intro k hk ls H locs hl hP hD hS
      obtain rfl : k = 24 := by omega
      refine lv_iload_n hx hb dX0_countWritten_4 rfl (lv_at hl 0 rfl) ?_
      refine lv_bipush (v := 24) hx hb dX0_countWritten_5 (by decide) ?_
      refine lv_icmp_ge (tgt := 28) hx hb dX0_countWritten_7 (by decide) (fun c_1 => ?_) (fun c_1 => ?_)
      · -- T of pc 7
        refine lv_iload_n hx hb dX0_countWritten_28 rfl (lv_at hl 1 rfl) ?_
        exact hret _ _ _ _ _ hP hD hS rfl dX0_countWritten_29
      · -- F of pc 7
        exact absurd (by decide) c_1
    | succ n ih =>
      intro k hk ls H locs hl hP hD hS
      refine lv_iload_n hx hb dX0_countWritten_4 rfl (lv_at hl 0 rfl) ?_
      refine lv_bipush (v := 24) hx hb dX0_countWritten_5 (by decide) ?_
      refine lv_icmp_ge (tgt := 28) hx hb dX0_countWritten_7 (by decide) (fun c_2 => ?_) (fun c_2 => ?_)
      · -- T of pc 7
        exact absurd c_2 (show ¬ nI 24 ≤ nI k from nI_ge (by omega) (by decide))
      · -- F of pc 7
        refine lv_aload_n hx hb dX0_countWritten_10 rfl (lv_at hl 2 rfl) ?_
        refine va_get (ci := 0) (v := .ref a4) (C := RX0) (T := TX0) (N := 10) hx hb hts (by decide +kernel) hown hK hP 0 rfl rfl 3 (by decide) (hts (.fieldLink RX0 19 "CommitLog" "written" "[Z") (by decide +kernel)) (fun _ h9 => h9) rfl dX0_countWritten_11 ?_
        refine lv_iload_n hx hb dX0_countWritten_14 rfl (lv_at hl 0 rfl) ?_
        refine va_zald hx hb hK hP 4 3 rfl rfl (vp_in_nI (by omega) (by decide)) dX0_countWritten_15 ?_
        refine tp_as (z := bI (dz k)) (by show bI (dz (nI k).toNatClampNeg) = _; rw [cl_nI (by omega)]) ?_
        refine lv_if_eq (tgt := 22) hx hb dX0_countWritten_16 (by decide) (fun c_3 => ?_) (fun c_3 => ?_)
        · -- T of pc 16
          have e1 : cnt dz (k + 1) = cnt dz k := by simp [cnt, dz_f c_3]
          rw [← e1] at hl
          have hl : lv_has ls 3 [(2, .int (nI k)), (1, .int (nI (cnt dz (k + 1)))), (0, .ref h0)] := hl
          refine lv_iinc (v := (nI (k + 1))) (lv' := [(2, .int (nI (k + 1))), (1, .int (nI (cnt dz (k + 1)))), (0, .ref h0)]) hx hb dX0_countWritten_22 hl (k := 0) rfl (nI_1 _) (by decide) rfl (fun ls hl => ?_)
          refine lv_goto (tgt := 4) hx hb dX0_countWritten_25 (by decide) ?_
          exact ih (k + 1) (by omega) ls H locs (lv_sub hl [0, 1, 2] rfl) hP hD hS
        · -- F of pc 16
          have e1 : cnt dz (k + 1) = cnt dz k + 1 := by simp [cnt, dz_t c_3]
          refine lv_iinc (v := (nI (cnt dz (k + 1)))) (lv' := [(1, .int (nI (cnt dz (k + 1)))), (2, .int (nI k)), (0, .ref h0)]) hx hb dX0_countWritten_19 hl (k := 1) rfl (by rw [e1]; exact nI_1 _) (by decide) rfl (fun ls hl => ?_)
          refine lv_iinc (v := (nI (k + 1))) (lv' := [(2, .int (nI (k + 1))), (1, .int (nI (cnt dz (k + 1)))), (0, .ref h0)]) hx hb dX0_countWritten_22 hl (k := 1) rfl (nI_1 _) (by decide) rfl (fun ls hl => ?_)
          refine lv_goto (tgt := 4) hx hb dX0_countWritten_25 (by decide) ?_
          exact ih (k + 1) (by omega) ls H locs (lv_sub hl [0, 1, 2] rfl) hP hD hS
  exact loop 24 0 rfl ls _ _ (lv_sub hl [0, 1, 2] rfl) hP hD hS
set_option maxHeartbeats 4000000 in
set_option maxRecDepth 100000 in
theorem c0_clearWritten (l : Launch) (D : va_G) (h0 a1 a2 a3 a4 a5 : Nat) (k1 k2 k3 k4 k5 : ClassId) (fw fd fb : Nat → Int32) (lq dz : Nat → Bool) (pw mk : Bool) (lc cu cs : Nat) : ct_v l yX0_clearWritten wsX0_clearWritten ({ frames := 0, cells := 0, slots := 0, locals := 0 }) D vwCl (XT k1 k2 k3 k4 k5) [.ref h0] (XW h0 a1 a2 a3 a4 a5 k1 k2 k3 k4 k5 fw fd fb lq dz pw mk lc cu cs) (XW h0 a1 a2 a3 a4 a5 k1 k2 k3 k4 k5 fw fd fb lq (clr dz 24) pw mk lc cu cs) := by
  refine ct_v.of (cc := cX0_clearWritten) (maxL := 2) (by decide) rfl (Nat.le_of_ble_eq_true rfl) ?_
  intro p e s m args below meth c ls A Q hx hb hml hts hown hK hP hD hA hS hl hret
  have hown : s.vm.findClass RX0 = some m.cls := hown
  have hl : lv_has ls 2 [(0, .ref h0)] := hl
  have hP : va_P D vwCl [(h0, .inr (0, [.ref a1, .ref a2, .ref a3, .ref a4, .ref a5, .int (bI pw), .int (bI mk), .int (nI lc), .int (nI cu), .int (nI cs)])), (a1, .inl (k1, 384, .inl fw)), (a2, .inl (k2, 384, .inl fd)), (a3, .inl (k3, 384, .inl fb)), (a4, .inl (k4, 24, .inl (fun j => bI (dz j)))), (a5, .inl (k5, 24, .inl (fun j => bI (lq j))))] s.heap := hP
  have hD : va_D A [(h0, .inr (0, [.ref a1, .ref a2, .ref a3, .ref a4, .ref a5, .int (bI pw), .int (bI mk), .int (nI lc), .int (nI cu), .int (nI cs)])), (a1, .inl (k1, 384, .inl fw)), (a2, .inl (k2, 384, .inl fd)), (a3, .inl (k3, 384, .inl fb)), (a4, .inl (k4, 24, .inl (fun j => bI (dz j)))), (a5, .inl (k5, 24, .inl (fun j => bI (lq j))))] := hD
  refine lv_iconst (v := 0) hx hb dX0_clearWritten_0 (by decide) ?_
  refine lv_istore_n (lv' := [(1, .int 0), (0, .ref h0)]) hx hb dX0_clearWritten_1 rfl hl (by decide) rfl (fun ls hl => ?_)
  have loop : ∀ (n k : Nat), k + n = 24 → ∀ (ls : Array Slot) (H : Heap) (locs : List Loc), lv_has ls 2 [(1, .int (nI k)), (0, .ref h0)] → va_P D vwCl [(h0, .inr (0, [.ref a1, .ref a2, .ref a3, .ref a4, .ref a5, .int (bI pw), .int (bI mk), .int (nI lc), .int (nI cu), .int (nI cs)])), (a1, .inl (k1, 384, .inl fw)), (a2, .inl (k2, 384, .inl fd)), (a3, .inl (k3, 384, .inl fb)), (a4, .inl (k4, 24, .inl (fun j => bI (clr dz k j)))), (a5, .inl (k5, 24, .inl (fun j => bI (lq j))))] H → va_D A [(h0, .inr (0, [.ref a1, .ref a2, .ref a3, .ref a4, .ref a5, .int (bI pw), .int (bI mk), .int (nI lc), .int (nI cu), .int (nI cs)])), (a1, .inl (k1, 384, .inl fw)), (a2, .inl (k2, 384, .inl fd)), (a3, .inl (k3, 384, .inl fb)), (a4, .inl (k4, 24, .inl (fun j => bI (clr dz k j)))), (a5, .inl (k5, 24, .inl (fun j => bI (lq j))))] → va_S A s.heap H locs → W p l e ({ frames := 0, cells := 0, slots := 0, locals := 0 }) s m args below meth c H locs 0 0 Q (F0 m 2 ls []) := by
    intro n
    induction n with
    | zero =>
      intro k hk ls H locs hl hP hD hS
      obtain rfl : k = 24 := by omega
      refine lv_iload_n hx hb dX0_clearWritten_2 rfl (lv_at hl 0 rfl) ?_
      refine lv_bipush (v := 24) hx hb dX0_clearWritten_3 (by decide) ?_
      refine lv_icmp_ge (tgt := 21) hx hb dX0_clearWritten_5 (by decide) (fun c_1 => ?_) (fun c_1 => ?_)
      · -- T of pc 5
        exact hret _ _ _ _ hP hD hS dX0_clearWritten_21
      · -- F of pc 5
        exact absurd (by decide) c_1
    | succ n ih =>
      intro k hk ls H locs hl hP hD hS
      refine lv_iload_n hx hb dX0_clearWritten_2 rfl (lv_at hl 0 rfl) ?_
      refine lv_bipush (v := 24) hx hb dX0_clearWritten_3 (by decide) ?_
      refine lv_icmp_ge (tgt := 21) hx hb dX0_clearWritten_5 (by decide) (fun c_2 => ?_) (fun c_2 => ?_)
      · -- T of pc 5
        exact absurd c_2 (show ¬ nI 24 ≤ nI k from nI_ge (by omega) (by decide))
      · -- F of pc 5
        refine lv_aload_n hx hb dX0_clearWritten_8 rfl (lv_at hl 1 rfl) ?_
        refine va_get (ci := 0) (v := .ref a4) (C := RX0) (T := TX0) (N := 10) hx hb hts (by decide +kernel) hown hK hP 0 rfl rfl 3 (by decide) (hts (.fieldLink RX0 19 "CommitLog" "written" "[Z") (by decide +kernel)) (fun _ h9 => h9) rfl dX0_clearWritten_9 ?_
        refine lv_iload_n hx hb dX0_clearWritten_12 rfl (lv_at hl 0 rfl) ?_
        refine lv_iconst (v := 0) hx hb dX0_clearWritten_13 (by decide) ?_
        refine va_zast hx hb hK hP hD hS 4 3 rfl rfl (vp_in_nI (by omega) (by decide)) dX0_clearWritten_14 (fun H locs hP hD hS => ?_)
        rw [cl_nI (show k < 2 ^ 31 by omega), show vp_nar .boolean 0 = bI false from rfl, up_bI, clr_s] at hP hD
        have hP : va_P D vwCl [(h0, .inr (0, [.ref a1, .ref a2, .ref a3, .ref a4, .ref a5, .int (bI pw), .int (bI mk), .int (nI lc), .int (nI cu), .int (nI cs)])), (a1, .inl (k1, 384, .inl fw)), (a2, .inl (k2, 384, .inl fd)), (a3, .inl (k3, 384, .inl fb)), (a4, .inl (k4, 24, .inl (fun j => bI (clr dz (k + 1) j)))), (a5, .inl (k5, 24, .inl (fun j => bI (lq j))))] H := hP
        have hD : va_D _ [(h0, .inr (0, [.ref a1, .ref a2, .ref a3, .ref a4, .ref a5, .int (bI pw), .int (bI mk), .int (nI lc), .int (nI cu), .int (nI cs)])), (a1, .inl (k1, 384, .inl fw)), (a2, .inl (k2, 384, .inl fd)), (a3, .inl (k3, 384, .inl fb)), (a4, .inl (k4, 24, .inl (fun j => bI (clr dz (k + 1) j)))), (a5, .inl (k5, 24, .inl (fun j => bI (lq j))))] := hD
        refine lv_iinc (v := (nI (k + 1))) (lv' := [(1, .int (nI (k + 1))), (0, .ref h0)]) hx hb dX0_clearWritten_15 hl (k := 0) rfl (nI_1 _) (by decide) rfl (fun ls hl => ?_)
        refine lv_goto (tgt := 2) hx hb dX0_clearWritten_18 (by decide) ?_
        exact ih (k + 1) (by omega) ls H locs (lv_sub hl [0, 1] rfl) hP hD hS
  exact loop 24 0 rfl ls _ _ (lv_sub hl [0, 1] rfl) (by rw [clr_0]; exact hP) (by rw [clr_0]; exact hD) hS
set_option maxHeartbeats 4000000 in
set_option maxRecDepth 100000 in
theorem c0_takeShare (l : Launch) (D : va_G) (h0 a1 a2 a3 a4 a5 : Nat) (k1 k2 k3 k4 k5 : ClassId) (fw fd fb : Nat → Int32) (lq dz : Nat → Bool) (pw mk : Bool) (lc cu cs : Nat) (hcu : cu ≤ 1000) : ct_i l yX0_takeShareOfThisCommit wsX0_takeShareOfThisCommit ({ frames := 0, cells := 0, slots := 0, locals := 0 }) D vwCl (XT k1 k2 k3 k4 k5) [.ref h0] (XW h0 a1 a2 a3 a4 a5 k1 k2 k3 k4 k5 fw fd fb lq dz pw mk lc cu cs) (XW h0 a1 a2 a3 a4 a5 k1 k2 k3 k4 k5 fw fd fb lq dz pw mk lc (cu - 1) cs) (nI (tkS cu cs)) := by
  match cu with
  | 0 =>
    have e9 : tkS 0 cs = 1000 := rfl
    rw [e9]
    refine ct_i.of (cc := cX0_takeShareOfThisCommit) (maxL := 1) (ty := .int) (by decide) rfl (Nat.le_of_ble_eq_true rfl) rfl ?_
    intro p e s m args below meth c ls A Q hx hb hml hts hown hK hP hD hA hS hl hret
    have hown : s.vm.findClass RX0 = some m.cls := hown
    have hl : lv_has ls 1 [(0, .ref h0)] := hl
    have hP : va_P D vwCl [(h0, .inr (0, [.ref a1, .ref a2, .ref a3, .ref a4, .ref a5, .int (bI pw), .int (bI mk), .int (nI lc), .int (nI 0), .int (nI cs)])), (a1, .inl (k1, 384, .inl fw)), (a2, .inl (k2, 384, .inl fd)), (a3, .inl (k3, 384, .inl fb)), (a4, .inl (k4, 24, .inl (fun j => bI (dz j)))), (a5, .inl (k5, 24, .inl (fun j => bI (lq j))))] s.heap := hP
    have hD : va_D A [(h0, .inr (0, [.ref a1, .ref a2, .ref a3, .ref a4, .ref a5, .int (bI pw), .int (bI mk), .int (nI lc), .int (nI 0), .int (nI cs)])), (a1, .inl (k1, 384, .inl fw)), (a2, .inl (k2, 384, .inl fd)), (a3, .inl (k3, 384, .inl fb)), (a4, .inl (k4, 24, .inl (fun j => bI (dz j)))), (a5, .inl (k5, 24, .inl (fun j => bI (lq j))))] := hD
    refine lv_aload_n hx hb dX0_takeShareOfThisCommit_0 rfl (lv_at hl 0 rfl) ?_
    refine va_get (ci := 0) (v := .int (nI 0)) (C := RX0) (T := TX0) (N := 10) hx hb hts (by decide +kernel) hown hK hP 0 rfl rfl 8 (by decide) (hts (.fieldLink RX0 37 "CommitLog" "commitsUntilCut" "I") (by decide +kernel)) (fun _ h9 => h9) rfl dX0_takeShareOfThisCommit_1 ?_
    refine lv_if_ne (tgt := 11) hx hb dX0_takeShareOfThisCommit_4 (by decide) (fun c_1 => ?_) (fun c_1 => ?_)
    · -- T of pc 4
      exact absurd rfl c_1
    · -- F of pc 4
      refine lv_sipush (v := 1000) hx hb dX0_takeShareOfThisCommit_7 (by decide) ?_
      exact hret _ _ _ _ _ hP hD hS rfl dX0_takeShareOfThisCommit_10
  | 1 =>
    have e9 : tkS 1 cs = cs := by simp [tkS]
    rw [e9]
    refine ct_i.of (cc := cX0_takeShareOfThisCommit) (maxL := 1) (ty := .int) (by decide) rfl (Nat.le_of_ble_eq_true rfl) rfl ?_
    intro p e s m args below meth c ls A Q hx hb hml hts hown hK hP hD hA hS hl hret
    have hown : s.vm.findClass RX0 = some m.cls := hown
    have hl : lv_has ls 1 [(0, .ref h0)] := hl
    have hP : va_P D vwCl [(h0, .inr (0, [.ref a1, .ref a2, .ref a3, .ref a4, .ref a5, .int (bI pw), .int (bI mk), .int (nI lc), .int (nI 1), .int (nI cs)])), (a1, .inl (k1, 384, .inl fw)), (a2, .inl (k2, 384, .inl fd)), (a3, .inl (k3, 384, .inl fb)), (a4, .inl (k4, 24, .inl (fun j => bI (dz j)))), (a5, .inl (k5, 24, .inl (fun j => bI (lq j))))] s.heap := hP
    have hD : va_D A [(h0, .inr (0, [.ref a1, .ref a2, .ref a3, .ref a4, .ref a5, .int (bI pw), .int (bI mk), .int (nI lc), .int (nI 1), .int (nI cs)])), (a1, .inl (k1, 384, .inl fw)), (a2, .inl (k2, 384, .inl fd)), (a3, .inl (k3, 384, .inl fb)), (a4, .inl (k4, 24, .inl (fun j => bI (dz j)))), (a5, .inl (k5, 24, .inl (fun j => bI (lq j))))] := hD
    refine lv_aload_n hx hb dX0_takeShareOfThisCommit_0 rfl (lv_at hl 0 rfl) ?_
    refine va_get (ci := 0) (v := .int (nI 1)) (C := RX0) (T := TX0) (N := 10) hx hb hts (by decide +kernel) hown hK hP 0 rfl rfl 8 (by decide) (hts (.fieldLink RX0 37 "CommitLog" "commitsUntilCut" "I") (by decide +kernel)) (fun _ h9 => h9) rfl dX0_takeShareOfThisCommit_1 ?_
    refine lv_if_ne (tgt := 11) hx hb dX0_takeShareOfThisCommit_4 (by decide) (fun c_1 => ?_) (fun c_1 => ?_)
    · -- T of pc 4
      refine lv_aload_n hx hb dX0_takeShareOfThisCommit_11 rfl (lv_at hl 0 rfl) ?_
      refine lv_dup hx hb dX0_takeShareOfThisCommit_12 rfl ?_
      refine va_get (ci := 0) (v := .int (nI 1)) (C := RX0) (T := TX0) (N := 10) hx hb hts (by decide +kernel) hown hK hP 0 rfl rfl 8 (by decide) (hts (.fieldLink RX0 37 "CommitLog" "commitsUntilCut" "I") (by decide +kernel)) (fun _ h9 => h9) rfl dX0_takeShareOfThisCommit_13 ?_
      refine lv_iconst (v := 1) hx hb dX0_takeShareOfThisCommit_16 (by decide) ?_
      refine lv_isub hx hb dX0_takeShareOfThisCommit_17 ?_
      refine tp_as (z := nI 0) rfl ?_
      refine va_put (ci := 0) (v := .int (nI 0)) (ty := .int) (C := RX0) (T := TX0) (N := 10) hx hb hts (by decide +kernel) tyX0 tyX0_ok nmX0 hown hK hP hD hS 0 rfl rfl 8 (by decide) (hts (.fieldLink RX0 37 "CommitLog" "commitsUntilCut" "I") (by decide +kernel)) (fun _ h9 => h9) rfl (by decide +kernel) rfl rfl (Nat.le_of_ble_eq_true rfl) dX0_takeShareOfThisCommit_18 (fun H locs hP hD hS => ?_)
      have hP : va_P D vwCl [(h0, .inr (0, [.ref a1, .ref a2, .ref a3, .ref a4, .ref a5, .int (bI pw), .int (bI mk), .int (nI lc), .int (nI 0), .int (nI cs)])), (a1, .inl (k1, 384, .inl fw)), (a2, .inl (k2, 384, .inl fd)), (a3, .inl (k3, 384, .inl fb)), (a4, .inl (k4, 24, .inl (fun j => bI (dz j)))), (a5, .inl (k5, 24, .inl (fun j => bI (lq j))))] H := hP
      have hD : va_D _ [(h0, .inr (0, [.ref a1, .ref a2, .ref a3, .ref a4, .ref a5, .int (bI pw), .int (bI mk), .int (nI lc), .int (nI 0), .int (nI cs)])), (a1, .inl (k1, 384, .inl fw)), (a2, .inl (k2, 384, .inl fd)), (a3, .inl (k3, 384, .inl fb)), (a4, .inl (k4, 24, .inl (fun j => bI (dz j)))), (a5, .inl (k5, 24, .inl (fun j => bI (lq j))))] := hD
      refine lv_aload_n hx hb dX0_takeShareOfThisCommit_21 rfl (lv_at hl 0 rfl) ?_
      refine va_get (ci := 0) (v := .int (nI 0)) (C := RX0) (T := TX0) (N := 10) hx hb hts (by decide +kernel) hown hK hP 0 rfl rfl 8 (by decide) (hts (.fieldLink RX0 37 "CommitLog" "commitsUntilCut" "I") (by decide +kernel)) (fun _ h9 => h9) rfl dX0_takeShareOfThisCommit_22 ?_
      refine lv_if_ne (tgt := 35) hx hb dX0_takeShareOfThisCommit_25 (by decide) (fun c_2 => ?_) (fun c_2 => ?_)
      · -- T of pc 25
        exact absurd rfl c_2
      · -- F of pc 25
        refine lv_aload_n hx hb dX0_takeShareOfThisCommit_28 rfl (lv_at hl 0 rfl) ?_
        refine va_get (ci := 0) (v := .int (nI cs)) (C := RX0) (T := TX0) (N := 10) hx hb hts (by decide +kernel) hown hK hP 0 rfl rfl 9 (by decide) (hts (.fieldLink RX0 40 "CommitLog" "cutShare" "I") (by decide +kernel)) (fun _ h9 => h9) rfl dX0_takeShareOfThisCommit_29 ?_
        refine lv_goto (tgt := 38) hx hb dX0_takeShareOfThisCommit_32 (by decide) ?_
        exact hret _ _ _ _ _ hP hD hS rfl dX0_takeShareOfThisCommit_38
    · -- F of pc 4
      exact absurd c_1 (by decide)
  | k + 2 =>
    have e9 : tkS (k + 2) cs = 1000 := by simp [tkS]
    rw [e9]
    refine ct_i.of (cc := cX0_takeShareOfThisCommit) (maxL := 1) (ty := .int) (by decide) rfl (Nat.le_of_ble_eq_true rfl) rfl ?_
    intro p e s m args below meth c ls A Q hx hb hml hts hown hK hP hD hA hS hl hret
    have hown : s.vm.findClass RX0 = some m.cls := hown
    have hl : lv_has ls 1 [(0, .ref h0)] := hl
    have hP : va_P D vwCl [(h0, .inr (0, [.ref a1, .ref a2, .ref a3, .ref a4, .ref a5, .int (bI pw), .int (bI mk), .int (nI lc), .int (nI (k + 2)), .int (nI cs)])), (a1, .inl (k1, 384, .inl fw)), (a2, .inl (k2, 384, .inl fd)), (a3, .inl (k3, 384, .inl fb)), (a4, .inl (k4, 24, .inl (fun j => bI (dz j)))), (a5, .inl (k5, 24, .inl (fun j => bI (lq j))))] s.heap := hP
    have hD : va_D A [(h0, .inr (0, [.ref a1, .ref a2, .ref a3, .ref a4, .ref a5, .int (bI pw), .int (bI mk), .int (nI lc), .int (nI (k + 2)), .int (nI cs)])), (a1, .inl (k1, 384, .inl fw)), (a2, .inl (k2, 384, .inl fd)), (a3, .inl (k3, 384, .inl fb)), (a4, .inl (k4, 24, .inl (fun j => bI (dz j)))), (a5, .inl (k5, 24, .inl (fun j => bI (lq j))))] := hD
    refine lv_aload_n hx hb dX0_takeShareOfThisCommit_0 rfl (lv_at hl 0 rfl) ?_
    refine va_get (ci := 0) (v := .int (nI (k + 2))) (C := RX0) (T := TX0) (N := 10) hx hb hts (by decide +kernel) hown hK hP 0 rfl rfl 8 (by decide) (hts (.fieldLink RX0 37 "CommitLog" "commitsUntilCut" "I") (by decide +kernel)) (fun _ h9 => h9) rfl dX0_takeShareOfThisCommit_1 ?_
    refine lv_if_ne (tgt := 11) hx hb dX0_takeShareOfThisCommit_4 (by decide) (fun c_1 => ?_) (fun c_1 => ?_)
    · -- T of pc 4
      refine lv_aload_n hx hb dX0_takeShareOfThisCommit_11 rfl (lv_at hl 0 rfl) ?_
      refine lv_dup hx hb dX0_takeShareOfThisCommit_12 rfl ?_
      refine va_get (ci := 0) (v := .int (nI (k + 2))) (C := RX0) (T := TX0) (N := 10) hx hb hts (by decide +kernel) hown hK hP 0 rfl rfl 8 (by decide) (hts (.fieldLink RX0 37 "CommitLog" "commitsUntilCut" "I") (by decide +kernel)) (fun _ h9 => h9) rfl dX0_takeShareOfThisCommit_13 ?_
      refine lv_iconst (v := 1) hx hb dX0_takeShareOfThisCommit_16 (by decide) ?_
      refine lv_isub hx hb dX0_takeShareOfThisCommit_17 ?_
      refine tp_as (z := nI (k + 1)) (nI_pred _) ?_
      refine va_put (ci := 0) (v := .int (nI (k + 1))) (ty := .int) (C := RX0) (T := TX0) (N := 10) hx hb hts (by decide +kernel) tyX0 tyX0_ok nmX0 hown hK hP hD hS 0 rfl rfl 8 (by decide) (hts (.fieldLink RX0 37 "CommitLog" "commitsUntilCut" "I") (by decide +kernel)) (fun _ h9 => h9) rfl (by decide +kernel) rfl rfl (Nat.le_of_ble_eq_true rfl) dX0_takeShareOfThisCommit_18 (fun H locs hP hD hS => ?_)
      have hP : va_P D vwCl [(h0, .inr (0, [.ref a1, .ref a2, .ref a3, .ref a4, .ref a5, .int (bI pw), .int (bI mk), .int (nI lc), .int (nI (k + 1)), .int (nI cs)])), (a1, .inl (k1, 384, .inl fw)), (a2, .inl (k2, 384, .inl fd)), (a3, .inl (k3, 384, .inl fb)), (a4, .inl (k4, 24, .inl (fun j => bI (dz j)))), (a5, .inl (k5, 24, .inl (fun j => bI (lq j))))] H := hP
      have hD : va_D _ [(h0, .inr (0, [.ref a1, .ref a2, .ref a3, .ref a4, .ref a5, .int (bI pw), .int (bI mk), .int (nI lc), .int (nI (k + 1)), .int (nI cs)])), (a1, .inl (k1, 384, .inl fw)), (a2, .inl (k2, 384, .inl fd)), (a3, .inl (k3, 384, .inl fb)), (a4, .inl (k4, 24, .inl (fun j => bI (dz j)))), (a5, .inl (k5, 24, .inl (fun j => bI (lq j))))] := hD
      refine lv_aload_n hx hb dX0_takeShareOfThisCommit_21 rfl (lv_at hl 0 rfl) ?_
      refine va_get (ci := 0) (v := .int (nI (k + 1))) (C := RX0) (T := TX0) (N := 10) hx hb hts (by decide +kernel) hown hK hP 0 rfl rfl 8 (by decide) (hts (.fieldLink RX0 37 "CommitLog" "commitsUntilCut" "I") (by decide +kernel)) (fun _ h9 => h9) rfl dX0_takeShareOfThisCommit_22 ?_
      refine lv_if_ne (tgt := 35) hx hb dX0_takeShareOfThisCommit_25 (by decide) (fun c_2 => ?_) (fun c_2 => ?_)
      · -- T of pc 25
        refine lv_sipush (v := 1000) hx hb dX0_takeShareOfThisCommit_35 (by decide) ?_
        exact hret _ _ _ _ _ hP hD hS rfl dX0_takeShareOfThisCommit_38
      · -- F of pc 25
        exact absurd c_2 (nI_ne0 (by omega) (by omega))
    · -- F of pc 4
      exact absurd c_1 (nI_ne0 (by omega) (by omega))
end
section
/-! The class: its private methods that call. -/
set_option maxHeartbeats 4000000 in
set_option maxRecDepth 100000 in
theorem c0_copyBlock (l : Launch) (D : va_G) (x1 x2 : Nat) (q1 q2 : ClassId) (f g : Nat → Int32) (i : Nat) (hi : i < 24) : ct_v l yX0_copyBlock wsX0_copyBlock ({ frames := 1, cells := 0, slots := 0, locals := 18 }) D vwCl [(q1, .int), (q2, .int)] [.ref x1, .ref x2, .int (nI i)] [(x1, .inl (q1, 384, .inl f)), (x2, .inl (q2, 384, .inl g))] [(x1, .inl (q1, 384, .inl f)), (x2, .inl (q2, 384, .inl (va_cpy f g (i * 16) (i * 16) 16)))] := by
  refine ct_v.of (cc := cX0_copyBlock) (maxL := 3) (by decide) rfl (Nat.le_of_ble_eq_true rfl) ?_
  intro p e s m args below meth c ls A Q hx hb hml hts hown hK hP hD hA hS hl hret
  have hown : s.vm.findClass RX0 = some m.cls := hown
  have hl : lv_has ls 3 [(0, .ref x1), (1, .ref x2), (2, .int (nI i))] := hl
  have hP : va_P D vwCl [(x1, .inl (q1, 384, .inl f)), (x2, .inl (q2, 384, .inl g))] s.heap := hP
  have hD : va_D A [(x1, .inl (q1, 384, .inl f)), (x2, .inl (q2, 384, .inl g))] := hD
  refine lv_aload_n hx hb dX0_copyBlock_0 rfl (lv_at hl 0 rfl) ?_
  refine lv_iload_n hx hb dX0_copyBlock_1 rfl (lv_at hl 2 rfl) ?_
  refine lv_bipush (v := 16) hx hb dX0_copyBlock_2 (by decide) ?_
  refine lv_imul hx hb dX0_copyBlock_4 ?_
  refine tp_as (z := nI (i * 16)) (pk_mul i 16) ?_
  refine lv_aload_n hx hb dX0_copyBlock_5 rfl (lv_at hl 1 rfl) ?_
  refine lv_iload_n hx hb dX0_copyBlock_6 rfl (lv_at hl 2 rfl) ?_
  refine lv_bipush (v := 16) hx hb dX0_copyBlock_7 (by decide) ?_
  refine lv_imul hx hb dX0_copyBlock_9 ?_
  refine tp_as (z := nI (i * 16)) (pk_mul i 16) ?_
  refine lv_bipush (v := 16) hx hb dX0_copyBlock_10 (by decide) ?_
  refine va_copyi (ty := .int) hx hb (hml.trans hl.1.symm) hown (hts (.methodLink RX0 74 arraycopyName) (by decide +kernel)) (hts (.native arraycopyName) (by decide +kernel)) (hts (.static arraycopyName) (by decide +kernel)) (hts (.initialized "java/lang/System") (by decide +kernel)) hK hP hD hS 0 1 0 1 rfl rfl rfl rfl rfl (nI_pos (by omega)) (nI_pos (by omega)) (by decide) (by rw [cl_nI (by omega)]; show i * 16 + 16 ≤ 384; omega) (by rw [cl_nI (by omega)]; show i * 16 + 16 ≤ 384; omega) (fun _ _ => rfl) (Nat.le_of_ble_eq_true rfl) (Nat.le_of_ble_eq_true rfl) dX0_copyBlock_12 (fun H locs hP hD hS => ?_)
  rw [cl_nI (show i * 16 < 2 ^ 31 by omega)] at hP hD
  have hP : va_P D vwCl [(x1, .inl (q1, 384, .inl f)), (x2, .inl (q2, 384, .inl (va_cpy f g (i * 16) (i * 16) 16)))] H := hP
  have hD : va_D _ [(x1, .inl (q1, 384, .inl f)), (x2, .inl (q2, 384, .inl (va_cpy f g (i * 16) (i * 16) 16)))] := hD
  exact hret _ _ _ _ hP hD hS dX0_copyBlock_15
set_option maxHeartbeats 4000000 in
set_option maxRecDepth 100000 in
theorem c0_bringToLog (l : Launch) (D : va_G) (h0 a1 a2 a3 a4 a5 : Nat) (k1 k2 k3 k4 k5 : ClassId) (fw fd fb : Nat → Int32) (lq dz : Nat → Bool) (pw mk : Bool) (lc cu cs : Nat) (mo : Nat) (hmo : mo ≤ 24) : ct_v l yX0_bringToLog wsX0_bringToLog ({ frames := 2, cells := 0, slots := 0, locals := 41 }) D vwCl (XT k1 k2 k3 k4 k5) [.ref h0, .int (nI mo)] (XW h0 a1 a2 a3 a4 a5 k1 k2 k3 k4 k5 fw fd fb lq dz pw mk lc cu cs) (XW h0 a1 a2 a3 a4 a5 k1 k2 k3 k4 k5 fw fd (lx fw dz mo fb 24) (lqK dz mo lq 24) dz pw mk lc cu cs) := by
  refine ct_v.of (cc := cX0_bringToLog) (maxL := 4) (by decide) rfl (Nat.le_of_ble_eq_true rfl) ?_
  intro p e s m args below meth c ls A Q hx hb hml hts hown hK hP hD hA hS hl hret
  have hown : s.vm.findClass RX0 = some m.cls := hown
  have hl : lv_has ls 4 [(0, .ref h0), (1, .int (nI mo))] := hl
  have hP : va_P D vwCl [(h0, .inr (0, [.ref a1, .ref a2, .ref a3, .ref a4, .ref a5, .int (bI pw), .int (bI mk), .int (nI lc), .int (nI cu), .int (nI cs)])), (a1, .inl (k1, 384, .inl fw)), (a2, .inl (k2, 384, .inl fd)), (a3, .inl (k3, 384, .inl fb)), (a4, .inl (k4, 24, .inl (fun j => bI (dz j)))), (a5, .inl (k5, 24, .inl (fun j => bI (lq j))))] s.heap := hP
  have hD : va_D A [(h0, .inr (0, [.ref a1, .ref a2, .ref a3, .ref a4, .ref a5, .int (bI pw), .int (bI mk), .int (nI lc), .int (nI cu), .int (nI cs)])), (a1, .inl (k1, 384, .inl fw)), (a2, .inl (k2, 384, .inl fd)), (a3, .inl (k3, 384, .inl fb)), (a4, .inl (k4, 24, .inl (fun j => bI (dz j)))), (a5, .inl (k5, 24, .inl (fun j => bI (lq j))))] := hD
  refine lv_iconst (v := 0) hx hb dX0_bringToLog_0 (by decide) ?_
  refine lv_istore_n (lv' := [(2, .int 0), (0, .ref h0), (1, .int (nI mo))]) hx hb dX0_bringToLog_1 rfl hl (by decide) rfl (fun ls hl => ?_)
  refine lv_iconst (v := 0) hx hb dX0_bringToLog_2 (by decide) ?_
  refine lv_istore_n (lv' := [(3, .int 0), (2, .int 0), (0, .ref h0), (1, .int (nI mo))]) hx hb dX0_bringToLog_3 rfl hl (by decide) rfl (fun ls hl => ?_)
  have loop : ∀ (n k : Nat), k + n = 24 → ∀ (ls : Array Slot) (H : Heap) (locs : List Loc), lv_has ls 4 [(3, .int (nI k)), (2, .int (nI (cm dz mo k))), (1, .int (nI mo)), (0, .ref h0)] → va_P D vwCl [(h0, .inr (0, [.ref a1, .ref a2, .ref a3, .ref a4, .ref a5, .int (bI pw), .int (bI mk), .int (nI lc), .int (nI cu), .int (nI cs)])), (a1, .inl (k1, 384, .inl fw)), (a2, .inl (k2, 384, .inl fd)), (a3, .inl (k3, 384, .inl (lx fw dz mo fb k))), (a4, .inl (k4, 24, .inl (fun j => bI (dz j)))), (a5, .inl (k5, 24, .inl (fun j => bI (lqK dz mo lq k j))))] H → va_D A [(h0, .inr (0, [.ref a1, .ref a2, .ref a3, .ref a4, .ref a5, .int (bI pw), .int (bI mk), .int (nI lc), .int (nI cu), .int (nI cs)])), (a1, .inl (k1, 384, .inl fw)), (a2, .inl (k2, 384, .inl fd)), (a3, .inl (k3, 384, .inl (lx fw dz mo fb k))), (a4, .inl (k4, 24, .inl (fun j => bI (dz j)))), (a5, .inl (k5, 24, .inl (fun j => bI (lqK dz mo lq k j))))] → va_S A s.heap H locs → W p l e ({ frames := 2, cells := 0, slots := 0, locals := 41 }) s m args below meth c H locs 0 0 Q (F0 m 4 ls []) := by
    intro n
    induction n with
    | zero =>
      intro k hk ls H locs hl hP hD hS
      obtain rfl : k = 24 := by omega
      refine lv_iload_n hx hb dX0_bringToLog_4 rfl (lv_at hl 0 rfl) ?_
      refine lv_bipush (v := 24) hx hb dX0_bringToLog_5 (by decide) ?_
      refine lv_icmp_ge (tgt := 65) hx hb dX0_bringToLog_7 (by decide) (fun c_1 => ?_) (fun c_1 => ?_)
      · -- T of pc 7
        exact hret _ _ _ _ hP hD hS dX0_bringToLog_65
      · -- F of pc 7
        exact absurd (by decide) c_1
    | succ n ih =>
      intro k hk ls H locs hl hP hD hS
      have hcm := cm_le dz mo k
      cases hz : dz k with
      | false =>
        refine lv_iload_n hx hb dX0_bringToLog_4 rfl (lv_at hl 0 rfl) ?_
        refine lv_bipush (v := 24) hx hb dX0_bringToLog_5 (by decide) ?_
        refine lv_icmp_ge (tgt := 65) hx hb dX0_bringToLog_7 (by decide) (fun c_2 => ?_) (fun c_2 => ?_)
        · -- T of pc 7
          exact absurd c_2 (show ¬ nI 24 ≤ nI k from nI_ge (by omega) (by decide))
        · -- F of pc 7
          have hno : ¬ (dz k = true ∧ cnt dz k < mo) := fun q => absurd (hz.symm.trans q.1) (by decide)
          refine lv_aload_n hx hb dX0_bringToLog_10 rfl (lv_at hl 3 rfl) ?_
          refine va_get (ci := 0) (v := .ref a5) (C := RX0) (T := TX0) (N := 10) hx hb hts (by decide +kernel) hown hK hP 0 rfl rfl 4 (by decide) (hts (.fieldLink RX0 23 "CommitLog" "logged" "[Z") (by decide +kernel)) (fun _ h9 => h9) rfl dX0_bringToLog_11 ?_
          refine lv_iload_n hx hb dX0_bringToLog_14 rfl (lv_at hl 0 rfl) ?_
          refine lv_aload_n hx hb dX0_bringToLog_15 rfl (lv_at hl 3 rfl) ?_
          refine va_get (ci := 0) (v := .ref a4) (C := RX0) (T := TX0) (N := 10) hx hb hts (by decide +kernel) hown hK hP 0 rfl rfl 3 (by decide) (hts (.fieldLink RX0 19 "CommitLog" "written" "[Z") (by decide +kernel)) (fun _ h9 => h9) rfl dX0_bringToLog_16 ?_
          refine lv_iload_n hx hb dX0_bringToLog_19 rfl (lv_at hl 0 rfl) ?_
          refine va_zald hx hb hK hP 4 3 rfl rfl (vp_in_nI (by omega) (by decide)) dX0_bringToLog_20 ?_
          refine tp_as (z := 0) (by rw [cl_nI (by omega)]; exact (by rw [hz]; rfl)) ?_
          refine lv_if_eq (tgt := 33) hx hb dX0_bringToLog_21 (by decide) (fun c_3 => ?_) (fun c_3 => ?_)
          · -- T of pc 21
            refine lv_iconst (v := 0) hx hb dX0_bringToLog_33 (by decide) ?_
            refine va_zast hx hb hK hP hD hS 5 4 rfl rfl (vp_in_nI (by omega) (by decide)) dX0_bringToLog_34 (fun H locs hP hD hS => ?_)
            rw [cl_nI (show k < 2 ^ 31 by omega), show vp_nar .boolean 0 = bI false from rfl, up_bI, lqK_n hno] at hP hD
            have hP : va_P D vwCl [(h0, .inr (0, [.ref a1, .ref a2, .ref a3, .ref a4, .ref a5, .int (bI pw), .int (bI mk), .int (nI lc), .int (nI cu), .int (nI cs)])), (a1, .inl (k1, 384, .inl fw)), (a2, .inl (k2, 384, .inl fd)), (a3, .inl (k3, 384, .inl (lx fw dz mo fb k))), (a4, .inl (k4, 24, .inl (fun j => bI (dz j)))), (a5, .inl (k5, 24, .inl (fun j => bI (lqK dz mo lq (k + 1) j))))] H := hP
            have hD : va_D _ [(h0, .inr (0, [.ref a1, .ref a2, .ref a3, .ref a4, .ref a5, .int (bI pw), .int (bI mk), .int (nI lc), .int (nI cu), .int (nI cs)])), (a1, .inl (k1, 384, .inl fw)), (a2, .inl (k2, 384, .inl fd)), (a3, .inl (k3, 384, .inl (lx fw dz mo fb k))), (a4, .inl (k4, 24, .inl (fun j => bI (dz j)))), (a5, .inl (k5, 24, .inl (fun j => bI (lqK dz mo lq (k + 1) j))))] := hD
            refine lv_aload_n hx hb dX0_bringToLog_35 rfl (lv_at hl 3 rfl) ?_
            refine va_get (ci := 0) (v := .ref a5) (C := RX0) (T := TX0) (N := 10) hx hb hts (by decide +kernel) hown hK hP 0 rfl rfl 4 (by decide) (hts (.fieldLink RX0 23 "CommitLog" "logged" "[Z") (by decide +kernel)) (fun _ h9 => h9) rfl dX0_bringToLog_36 ?_
            refine lv_iload_n hx hb dX0_bringToLog_39 rfl (lv_at hl 0 rfl) ?_
            refine va_zald hx hb hK hP 5 4 rfl rfl (vp_in_nI (by omega) (by decide)) dX0_bringToLog_40 ?_
            refine tp_as (z := 0) (by rw [cl_nI (by omega)]; exact (by rw [lqK_an hno]; rfl)) ?_
            refine lv_if_eq (tgt := 59) hx hb dX0_bringToLog_41 (by decide) (fun c_4 => ?_) (fun c_4 => ?_)
            · -- T of pc 41
              have hP : va_P D vwCl [(h0, .inr (0, [.ref a1, .ref a2, .ref a3, .ref a4, .ref a5, .int (bI pw), .int (bI mk), .int (nI lc), .int (nI cu), .int (nI cs)])), (a1, .inl (k1, 384, .inl fw)), (a2, .inl (k2, 384, .inl fd)), (a3, .inl (k3, 384, .inl (lx fw dz mo fb (k + 1)))), (a4, .inl (k4, 24, .inl (fun j => bI (dz j)))), (a5, .inl (k5, 24, .inl (fun j => bI (lqK dz mo lq (k + 1) j))))] H := by rw [lx_n hno]; exact hP
              have hD : va_D A [(h0, .inr (0, [.ref a1, .ref a2, .ref a3, .ref a4, .ref a5, .int (bI pw), .int (bI mk), .int (nI lc), .int (nI cu), .int (nI cs)])), (a1, .inl (k1, 384, .inl fw)), (a2, .inl (k2, 384, .inl fd)), (a3, .inl (k3, 384, .inl (lx fw dz mo fb (k + 1)))), (a4, .inl (k4, 24, .inl (fun j => bI (dz j)))), (a5, .inl (k5, 24, .inl (fun j => bI (lqK dz mo lq (k + 1) j))))] := by rw [lx_n hno]; exact hD
              have hl : lv_has ls 4 [(3, .int (nI k)), (2, .int (nI (cm dz mo (k + 1)))), (1, .int (nI mo)), (0, .ref h0)] := by rw [cm_n hno]; exact hl
              refine lv_iinc (v := (nI (k + 1))) (lv' := [(3, .int (nI (k + 1))), (2, .int (nI (cm dz mo (k + 1)))), (1, .int (nI mo)), (0, .ref h0)]) hx hb dX0_bringToLog_59 hl (k := 0) rfl (nI_1 _) (by decide) rfl (fun ls hl => ?_)
              refine lv_goto (tgt := 4) hx hb dX0_bringToLog_62 (by decide) ?_
              exact ih (k + 1) (by omega) ls H locs (lv_sub hl [0, 1, 2, 3] rfl) hP hD hS
            · -- F of pc 41
              exact absurd (by decide) c_4
          · -- F of pc 21
            exact absurd (by decide) c_3
      | true =>
        refine lv_iload_n hx hb dX0_bringToLog_4 rfl (lv_at hl 0 rfl) ?_
        refine lv_bipush (v := 24) hx hb dX0_bringToLog_5 (by decide) ?_
        refine lv_icmp_ge (tgt := 65) hx hb dX0_bringToLog_7 (by decide) (fun c_5 => ?_) (fun c_5 => ?_)
        · -- T of pc 7
          exact absurd c_5 (show ¬ nI 24 ≤ nI k from nI_ge (by omega) (by decide))
        · -- F of pc 7
          refine lv_aload_n hx hb dX0_bringToLog_10 rfl (lv_at hl 3 rfl) ?_
          refine va_get (ci := 0) (v := .ref a5) (C := RX0) (T := TX0) (N := 10) hx hb hts (by decide +kernel) hown hK hP 0 rfl rfl 4 (by decide) (hts (.fieldLink RX0 23 "CommitLog" "logged" "[Z") (by decide +kernel)) (fun _ h9 => h9) rfl dX0_bringToLog_11 ?_
          refine lv_iload_n hx hb dX0_bringToLog_14 rfl (lv_at hl 0 rfl) ?_
          refine lv_aload_n hx hb dX0_bringToLog_15 rfl (lv_at hl 3 rfl) ?_
          refine va_get (ci := 0) (v := .ref a4) (C := RX0) (T := TX0) (N := 10) hx hb hts (by decide +kernel) hown hK hP 0 rfl rfl 3 (by decide) (hts (.fieldLink RX0 19 "CommitLog" "written" "[Z") (by decide +kernel)) (fun _ h9 => h9) rfl dX0_bringToLog_16 ?_
          refine lv_iload_n hx hb dX0_bringToLog_19 rfl (lv_at hl 0 rfl) ?_
          refine va_zald hx hb hK hP 4 3 rfl rfl (vp_in_nI (by omega) (by decide)) dX0_bringToLog_20 ?_
          refine tp_as (z := 1) (by rw [cl_nI (by omega)]; exact (by rw [hz]; rfl)) ?_
          refine lv_if_eq (tgt := 33) hx hb dX0_bringToLog_21 (by decide) (fun c_6 => ?_) (fun c_6 => ?_)
          · -- T of pc 21
            exact absurd c_6 (by decide)
          · -- F of pc 21
            refine lv_iload_n hx hb dX0_bringToLog_24 rfl (lv_at hl 1 rfl) ?_
            refine lv_iload_n hx hb dX0_bringToLog_25 rfl (lv_at hl 2 rfl) ?_
            refine lv_icmp_ge (tgt := 33) hx hb dX0_bringToLog_26 (by decide) (fun c_7 => ?_) (fun c_7 => ?_)
            · -- T of pc 26
              have hno : ¬ (dz k = true ∧ cnt dz k < mo) := fun q => absurd (cm_lt.mpr q.2) (Nat.not_lt.mpr ((nI_leI (by omega) (by omega)).mp c_7))
              refine lv_iconst (v := 0) hx hb dX0_bringToLog_33 (by decide) ?_
              refine va_zast hx hb hK hP hD hS 5 4 rfl rfl (vp_in_nI (by omega) (by decide)) dX0_bringToLog_34 (fun H locs hP hD hS => ?_)
              rw [cl_nI (show k < 2 ^ 31 by omega), show vp_nar .boolean 0 = bI false from rfl, up_bI, lqK_n hno] at hP hD
              have hP : va_P D vwCl [(h0, .inr (0, [.ref a1, .ref a2, .ref a3, .ref a4, .ref a5, .int (bI pw), .int (bI mk), .int (nI lc), .int (nI cu), .int (nI cs)])), (a1, .inl (k1, 384, .inl fw)), (a2, .inl (k2, 384, .inl fd)), (a3, .inl (k3, 384, .inl (lx fw dz mo fb k))), (a4, .inl (k4, 24, .inl (fun j => bI (dz j)))), (a5, .inl (k5, 24, .inl (fun j => bI (lqK dz mo lq (k + 1) j))))] H := hP
              have hD : va_D _ [(h0, .inr (0, [.ref a1, .ref a2, .ref a3, .ref a4, .ref a5, .int (bI pw), .int (bI mk), .int (nI lc), .int (nI cu), .int (nI cs)])), (a1, .inl (k1, 384, .inl fw)), (a2, .inl (k2, 384, .inl fd)), (a3, .inl (k3, 384, .inl (lx fw dz mo fb k))), (a4, .inl (k4, 24, .inl (fun j => bI (dz j)))), (a5, .inl (k5, 24, .inl (fun j => bI (lqK dz mo lq (k + 1) j))))] := hD
              refine lv_aload_n hx hb dX0_bringToLog_35 rfl (lv_at hl 3 rfl) ?_
              refine va_get (ci := 0) (v := .ref a5) (C := RX0) (T := TX0) (N := 10) hx hb hts (by decide +kernel) hown hK hP 0 rfl rfl 4 (by decide) (hts (.fieldLink RX0 23 "CommitLog" "logged" "[Z") (by decide +kernel)) (fun _ h9 => h9) rfl dX0_bringToLog_36 ?_
              refine lv_iload_n hx hb dX0_bringToLog_39 rfl (lv_at hl 0 rfl) ?_
              refine va_zald hx hb hK hP 5 4 rfl rfl (vp_in_nI (by omega) (by decide)) dX0_bringToLog_40 ?_
              refine tp_as (z := 0) (by rw [cl_nI (by omega)]; exact (by rw [lqK_an hno]; rfl)) ?_
              refine lv_if_eq (tgt := 59) hx hb dX0_bringToLog_41 (by decide) (fun c_8 => ?_) (fun c_8 => ?_)
              · -- T of pc 41
                have hP : va_P D vwCl [(h0, .inr (0, [.ref a1, .ref a2, .ref a3, .ref a4, .ref a5, .int (bI pw), .int (bI mk), .int (nI lc), .int (nI cu), .int (nI cs)])), (a1, .inl (k1, 384, .inl fw)), (a2, .inl (k2, 384, .inl fd)), (a3, .inl (k3, 384, .inl (lx fw dz mo fb (k + 1)))), (a4, .inl (k4, 24, .inl (fun j => bI (dz j)))), (a5, .inl (k5, 24, .inl (fun j => bI (lqK dz mo lq (k + 1) j))))] H := by rw [lx_n hno]; exact hP
                have hD : va_D A [(h0, .inr (0, [.ref a1, .ref a2, .ref a3, .ref a4, .ref a5, .int (bI pw), .int (bI mk), .int (nI lc), .int (nI cu), .int (nI cs)])), (a1, .inl (k1, 384, .inl fw)), (a2, .inl (k2, 384, .inl fd)), (a3, .inl (k3, 384, .inl (lx fw dz mo fb (k + 1)))), (a4, .inl (k4, 24, .inl (fun j => bI (dz j)))), (a5, .inl (k5, 24, .inl (fun j => bI (lqK dz mo lq (k + 1) j))))] := by rw [lx_n hno]; exact hD
                have hl : lv_has ls 4 [(3, .int (nI k)), (2, .int (nI (cm dz mo (k + 1)))), (1, .int (nI mo)), (0, .ref h0)] := by rw [cm_n hno]; exact hl
                refine lv_iinc (v := (nI (k + 1))) (lv' := [(3, .int (nI (k + 1))), (2, .int (nI (cm dz mo (k + 1)))), (1, .int (nI mo)), (0, .ref h0)]) hx hb dX0_bringToLog_59 hl (k := 0) rfl (nI_1 _) (by decide) rfl (fun ls hl => ?_)
                refine lv_goto (tgt := 4) hx hb dX0_bringToLog_62 (by decide) ?_
                exact ih (k + 1) (by omega) ls H locs (lv_sub hl [0, 1, 2, 3] rfl) hP hD hS
              · -- F of pc 41
                exact absurd (by decide) c_8
            · -- F of pc 26
              have hyes : (dz k = true ∧ cnt dz k < mo) := by
                refine ⟨hz, cm_lt.mp ?_⟩
                rcases Nat.lt_or_ge (cm dz mo k) mo with q | q
                · exact q
                · exact absurd (nI_le q (by omega)) c_7
              refine lv_iconst (v := 1) hx hb dX0_bringToLog_29 (by decide) ?_
              refine lv_goto (tgt := 34) hx hb dX0_bringToLog_30 (by decide) ?_
              refine va_zast hx hb hK hP hD hS 5 4 rfl rfl (vp_in_nI (by omega) (by decide)) dX0_bringToLog_34 (fun H locs hP hD hS => ?_)
              rw [cl_nI (show k < 2 ^ 31 by omega), show vp_nar .boolean 1 = bI true from rfl, up_bI, lqK_y hyes] at hP hD
              have hP : va_P D vwCl [(h0, .inr (0, [.ref a1, .ref a2, .ref a3, .ref a4, .ref a5, .int (bI pw), .int (bI mk), .int (nI lc), .int (nI cu), .int (nI cs)])), (a1, .inl (k1, 384, .inl fw)), (a2, .inl (k2, 384, .inl fd)), (a3, .inl (k3, 384, .inl (lx fw dz mo fb k))), (a4, .inl (k4, 24, .inl (fun j => bI (dz j)))), (a5, .inl (k5, 24, .inl (fun j => bI (lqK dz mo lq (k + 1) j))))] H := hP
              have hD : va_D _ [(h0, .inr (0, [.ref a1, .ref a2, .ref a3, .ref a4, .ref a5, .int (bI pw), .int (bI mk), .int (nI lc), .int (nI cu), .int (nI cs)])), (a1, .inl (k1, 384, .inl fw)), (a2, .inl (k2, 384, .inl fd)), (a3, .inl (k3, 384, .inl (lx fw dz mo fb k))), (a4, .inl (k4, 24, .inl (fun j => bI (dz j)))), (a5, .inl (k5, 24, .inl (fun j => bI (lqK dz mo lq (k + 1) j))))] := hD
              refine lv_aload_n hx hb dX0_bringToLog_35 rfl (lv_at hl 3 rfl) ?_
              refine va_get (ci := 0) (v := .ref a5) (C := RX0) (T := TX0) (N := 10) hx hb hts (by decide +kernel) hown hK hP 0 rfl rfl 4 (by decide) (hts (.fieldLink RX0 23 "CommitLog" "logged" "[Z") (by decide +kernel)) (fun _ h9 => h9) rfl dX0_bringToLog_36 ?_
              refine lv_iload_n hx hb dX0_bringToLog_39 rfl (lv_at hl 0 rfl) ?_
              refine va_zald hx hb hK hP 5 4 rfl rfl (vp_in_nI (by omega) (by decide)) dX0_bringToLog_40 ?_
              refine tp_as (z := 1) (by rw [cl_nI (by omega)]; exact (by rw [lqK_ay hyes]; rfl)) ?_
              refine lv_if_eq (tgt := 59) hx hb dX0_bringToLog_41 (by decide) (fun c_9 => ?_) (fun c_9 => ?_)
              · -- T of pc 41
                exact absurd c_9 (by decide)
              · -- F of pc 41
                refine lv_aload_n hx hb dX0_bringToLog_44 rfl (lv_at hl 3 rfl) ?_
                refine va_get (ci := 0) (v := .ref a1) (C := RX0) (T := TX0) (N := 10) hx hb hts (by decide +kernel) hown hK hP 0 rfl rfl 0 (by decide) (hts (.fieldLink RX0 9 "CommitLog" "work" "[I") (by decide +kernel)) (fun _ h9 => h9) rfl dX0_bringToLog_45 ?_
                refine lv_aload_n hx hb dX0_bringToLog_48 rfl (lv_at hl 3 rfl) ?_
                refine va_get (ci := 0) (v := .ref a3) (C := RX0) (T := TX0) (N := 10) hx hb hts (by decide +kernel) hown hK hP 0 rfl rfl 2 (by decide) (hts (.fieldLink RX0 16 "CommitLog" "logBytes" "[I") (by decide +kernel)) (fun _ h9 => h9) rfl dX0_bringToLog_49 ?_
                refine lv_iload_n hx hb dX0_bringToLog_52 rfl (lv_at hl 0 rfl) ?_
                refine ct_Sv (As := [.ref a1, .ref a3, .int (nI k)]) (rest := []) (wr := [(h0, .inr (0, [.ref a1, .ref a2, .ref a3, .ref a4, .ref a5, .int (bI pw), .int (bI mk), .int (nI lc), .int (nI cu), .int (nI cs)])), (a2, .inl (k2, 384, .inl fd)), (a4, .inl (k4, 24, .inl (fun j => bI (dz j)))), (a5, .inl (k5, 24, .inl (fun j => bI (lqK dz mo lq (k + 1) j))))]) (wn := [(h0, .inr (0, [.ref a1, .ref a2, .ref a3, .ref a4, .ref a5, .int (bI pw), .int (bI mk), .int (nI lc), .int (nI cu), .int (nI cs)])), (a1, .inl (k1, 384, .inl fw)), (a2, .inl (k2, 384, .inl fd)), (a3, .inl (k3, 384, .inl (va_cpy fw (lx fw dz mo fb k) (k * 16) (k * 16) 16))), (a4, .inl (k4, 24, .inl (fun j => bI (dz j)))), (a5, .inl (k5, 24, .inl (fun j => bI (lqK dz mo lq (k + 1) j))))]) ⟨hx, hb, hml, hown, hts⟩ (c0_copyBlock l D a1 a3 k1 k3 fw (lx fw dz mo fb k) k (by omega)) (va_cwS 3 hts gX0_bringToLog_X0_copyBlock rfl rfl rfl (by decide +kernel) ⟨Nat.le_of_ble_eq_true rfl, Nat.le_of_ble_eq_true rfl⟩) hK hP hD hS hA [1, 3] [0, 2, 4, 5] [0, 2] [0, 4, 1, 5, 2, 3] rfl rfl (by decide) rfl (by decide) (by decide) rfl (by decide) rfl hl.1 rfl (Nat.le_of_ble_eq_true rfl) dX0_bringToLog_53 ⟨Nat.zero_le _, Nat.zero_le _⟩ (fun H locs hP hD hS => ?_)
                have hP : va_P D vwCl [(h0, .inr (0, [.ref a1, .ref a2, .ref a3, .ref a4, .ref a5, .int (bI pw), .int (bI mk), .int (nI lc), .int (nI cu), .int (nI cs)])), (a1, .inl (k1, 384, .inl fw)), (a2, .inl (k2, 384, .inl fd)), (a3, .inl (k3, 384, .inl (lx fw dz mo fb (k + 1)))), (a4, .inl (k4, 24, .inl (fun j => bI (dz j)))), (a5, .inl (k5, 24, .inl (fun j => bI (lqK dz mo lq (k + 1) j))))] H := by rw [lx_y hyes]; exact hP
                have hD : va_D A [(h0, .inr (0, [.ref a1, .ref a2, .ref a3, .ref a4, .ref a5, .int (bI pw), .int (bI mk), .int (nI lc), .int (nI cu), .int (nI cs)])), (a1, .inl (k1, 384, .inl fw)), (a2, .inl (k2, 384, .inl fd)), (a3, .inl (k3, 384, .inl (lx fw dz mo fb (k + 1)))), (a4, .inl (k4, 24, .inl (fun j => bI (dz j)))), (a5, .inl (k5, 24, .inl (fun j => bI (lqK dz mo lq (k + 1) j))))] := by rw [lx_y hyes]; exact hD
                refine lv_iinc (v := (nI (cm dz mo (k + 1)))) (lv' := [(2, .int (nI (cm dz mo (k + 1)))), (3, .int (nI k)), (1, .int (nI mo)), (0, .ref h0)]) hx hb dX0_bringToLog_56 hl (k := 1) rfl (by rw [cm_y hyes]; exact nI_1 _) (by decide) rfl (fun ls hl => ?_)
                refine lv_iinc (v := (nI (k + 1))) (lv' := [(3, .int (nI (k + 1))), (2, .int (nI (cm dz mo (k + 1)))), (1, .int (nI mo)), (0, .ref h0)]) hx hb dX0_bringToLog_59 hl (k := 1) rfl (nI_1 _) (by decide) rfl (fun ls hl => ?_)
                refine lv_goto (tgt := 4) hx hb dX0_bringToLog_62 (by decide) ?_
                exact ih (k + 1) (by omega) ls H locs (lv_sub hl [0, 1, 2, 3] rfl) hP hD hS
  exact loop 24 0 rfl ls _ _ (lv_sub hl [0, 1, 3, 2] rfl) (by rw [lqK_0]; exact hP) (by rw [lqK_0]; exact hD) hS
set_option maxHeartbeats 4000000 in
set_option maxRecDepth 100000 in
theorem c0_bringLogToDisk (l : Launch) (D : va_G) (h0 a1 a2 a3 a4 a5 : Nat) (k1 k2 k3 k4 k5 : ClassId) (fw fd fb : Nat → Int32) (lq dz : Nat → Bool) (pw mk : Bool) (lc cu cs : Nat) (mo : Nat) (hmo : mo ≤ 24) : ct_v l yX0_bringLogToDisk wsX0_bringLogToDisk ({ frames := 2, cells := 0, slots := 0, locals := 41 }) D vwCl (XT k1 k2 k3 k4 k5) [.ref h0, .int (nI mo)] (XW h0 a1 a2 a3 a4 a5 k1 k2 k3 k4 k5 fw fd fb lq dz pw mk lc cu cs) (XW h0 a1 a2 a3 a4 a5 k1 k2 k3 k4 k5 fw (lx fb lq mo fd 24) fb lq dz pw mk lc cu cs) := by
  refine ct_v.of (cc := cX0_bringLogToDisk) (maxL := 4) (by decide) rfl (Nat.le_of_ble_eq_true rfl) ?_
  intro p e s m args below meth c ls A Q hx hb hml hts hown hK hP hD hA hS hl hret
  have hown : s.vm.findClass RX0 = some m.cls := hown
  have hl : lv_has ls 4 [(0, .ref h0), (1, .int (nI mo))] := hl
  have hP : va_P D vwCl [(h0, .inr (0, [.ref a1, .ref a2, .ref a3, .ref a4, .ref a5, .int (bI pw), .int (bI mk), .int (nI lc), .int (nI cu), .int (nI cs)])), (a1, .inl (k1, 384, .inl fw)), (a2, .inl (k2, 384, .inl fd)), (a3, .inl (k3, 384, .inl fb)), (a4, .inl (k4, 24, .inl (fun j => bI (dz j)))), (a5, .inl (k5, 24, .inl (fun j => bI (lq j))))] s.heap := hP
  have hD : va_D A [(h0, .inr (0, [.ref a1, .ref a2, .ref a3, .ref a4, .ref a5, .int (bI pw), .int (bI mk), .int (nI lc), .int (nI cu), .int (nI cs)])), (a1, .inl (k1, 384, .inl fw)), (a2, .inl (k2, 384, .inl fd)), (a3, .inl (k3, 384, .inl fb)), (a4, .inl (k4, 24, .inl (fun j => bI (dz j)))), (a5, .inl (k5, 24, .inl (fun j => bI (lq j))))] := hD
  refine lv_iconst (v := 0) hx hb dX0_bringLogToDisk_0 (by decide) ?_
  refine lv_istore_n (lv' := [(2, .int 0), (0, .ref h0), (1, .int (nI mo))]) hx hb dX0_bringLogToDisk_1 rfl hl (by decide) rfl (fun ls hl => ?_)
  refine lv_iconst (v := 0) hx hb dX0_bringLogToDisk_2 (by decide) ?_
  refine lv_istore_n (lv' := [(3, .int 0), (2, .int 0), (0, .ref h0), (1, .int (nI mo))]) hx hb dX0_bringLogToDisk_3 rfl hl (by decide) rfl (fun ls hl => ?_)
  have loop : ∀ (n k : Nat), k + n = 24 → ∀ (ls : Array Slot) (H : Heap) (locs : List Loc), lv_has ls 4 [(3, .int (nI k)), (2, .int (nI (cnt lq k))), (1, .int (nI mo)), (0, .ref h0)] → va_P D vwCl [(h0, .inr (0, [.ref a1, .ref a2, .ref a3, .ref a4, .ref a5, .int (bI pw), .int (bI mk), .int (nI lc), .int (nI cu), .int (nI cs)])), (a1, .inl (k1, 384, .inl fw)), (a2, .inl (k2, 384, .inl (lx fb lq mo fd k))), (a3, .inl (k3, 384, .inl fb)), (a4, .inl (k4, 24, .inl (fun j => bI (dz j)))), (a5, .inl (k5, 24, .inl (fun j => bI (lq j))))] H → va_D A [(h0, .inr (0, [.ref a1, .ref a2, .ref a3, .ref a4, .ref a5, .int (bI pw), .int (bI mk), .int (nI lc), .int (nI cu), .int (nI cs)])), (a1, .inl (k1, 384, .inl fw)), (a2, .inl (k2, 384, .inl (lx fb lq mo fd k))), (a3, .inl (k3, 384, .inl fb)), (a4, .inl (k4, 24, .inl (fun j => bI (dz j)))), (a5, .inl (k5, 24, .inl (fun j => bI (lq j))))] → va_S A s.heap H locs → W p l e ({ frames := 2, cells := 0, slots := 0, locals := 41 }) s m args below meth c H locs 0 0 Q (F0 m 4 ls []) := by
    intro n
    induction n with
    | zero =>
      intro k hk ls H locs hl hP hD hS
      obtain rfl : k = 24 := by omega
      refine lv_iload_n hx hb dX0_bringLogToDisk_4 rfl (lv_at hl 0 rfl) ?_
      refine lv_bipush (v := 24) hx hb dX0_bringLogToDisk_5 (by decide) ?_
      refine lv_icmp_ge (tgt := 45) hx hb dX0_bringLogToDisk_7 (by decide) (fun c_1 => ?_) (fun c_1 => ?_)
      · -- T of pc 7
        exact hret _ _ _ _ hP hD hS dX0_bringLogToDisk_45
      · -- F of pc 7
        exact absurd (by decide) c_1
    | succ n ih =>
      intro k hk ls H locs hl hP hD hS
      have hcn := cnt_le lq k
      cases hz : lq k with
      | false =>
        refine lv_iload_n hx hb dX0_bringLogToDisk_4 rfl (lv_at hl 0 rfl) ?_
        refine lv_bipush (v := 24) hx hb dX0_bringLogToDisk_5 (by decide) ?_
        refine lv_icmp_ge (tgt := 45) hx hb dX0_bringLogToDisk_7 (by decide) (fun c_2 => ?_) (fun c_2 => ?_)
        · -- T of pc 7
          exact absurd c_2 (show ¬ nI 24 ≤ nI k from nI_ge (by omega) (by decide))
        · -- F of pc 7
          refine lv_iload_n hx hb dX0_bringLogToDisk_10 rfl (lv_at hl 1 rfl) ?_
          refine lv_iload_n hx hb dX0_bringLogToDisk_11 rfl (lv_at hl 2 rfl) ?_
          refine lv_icmp_ge (tgt := 45) hx hb dX0_bringLogToDisk_12 (by decide) (fun c_3 => ?_) (fun c_3 => ?_)
          · -- T of pc 12
            have e1 : lx fb lq mo fd 24 = lx fb lq mo fd k := by
              have h9 : mo ≤ cnt lq k := (nI_leI (by omega) (by omega)).mp c_3
              have h8 := lx_stop (f := fb) (g := fd) h9 (n + 1)
              rwa [show k + (n + 1) = 24 by omega] at h8
            rw [← e1] at hP hD
            have hP : va_P D vwCl [(h0, .inr (0, [.ref a1, .ref a2, .ref a3, .ref a4, .ref a5, .int (bI pw), .int (bI mk), .int (nI lc), .int (nI cu), .int (nI cs)])), (a1, .inl (k1, 384, .inl fw)), (a2, .inl (k2, 384, .inl (lx fb lq mo fd 24))), (a3, .inl (k3, 384, .inl fb)), (a4, .inl (k4, 24, .inl (fun j => bI (dz j)))), (a5, .inl (k5, 24, .inl (fun j => bI (lq j))))] H := hP
            have hD : va_D _ [(h0, .inr (0, [.ref a1, .ref a2, .ref a3, .ref a4, .ref a5, .int (bI pw), .int (bI mk), .int (nI lc), .int (nI cu), .int (nI cs)])), (a1, .inl (k1, 384, .inl fw)), (a2, .inl (k2, 384, .inl (lx fb lq mo fd 24))), (a3, .inl (k3, 384, .inl fb)), (a4, .inl (k4, 24, .inl (fun j => bI (dz j)))), (a5, .inl (k5, 24, .inl (fun j => bI (lq j))))] := hD
            exact hret _ _ _ _ hP hD hS dX0_bringLogToDisk_45
          · -- F of pc 12
            have hlt : cnt lq k < mo := by
              rcases Nat.lt_or_ge (cnt lq k) mo with q | q
              · exact q
              · exact absurd (nI_le q (by omega)) c_3
            refine lv_aload_n hx hb dX0_bringLogToDisk_15 rfl (lv_at hl 3 rfl) ?_
            refine va_get (ci := 0) (v := .ref a5) (C := RX0) (T := TX0) (N := 10) hx hb hts (by decide +kernel) hown hK hP 0 rfl rfl 4 (by decide) (hts (.fieldLink RX0 23 "CommitLog" "logged" "[Z") (by decide +kernel)) (fun _ h9 => h9) rfl dX0_bringLogToDisk_16 ?_
            refine lv_iload_n hx hb dX0_bringLogToDisk_19 rfl (lv_at hl 0 rfl) ?_
            refine va_zald hx hb hK hP 5 4 rfl rfl (vp_in_nI (by omega) (by decide)) dX0_bringLogToDisk_20 ?_
            refine tp_as (z := 0) (by rw [cl_nI (by omega)]; exact (by rw [hz]; rfl)) ?_
            refine lv_if_eq (tgt := 39) hx hb dX0_bringLogToDisk_21 (by decide) (fun c_4 => ?_) (fun c_4 => ?_)
            · -- T of pc 21
              have hno : ¬ (lq k = true ∧ cnt lq k < mo) := fun q => absurd (hz.symm.trans q.1) (by decide)
              have hP : va_P D vwCl [(h0, .inr (0, [.ref a1, .ref a2, .ref a3, .ref a4, .ref a5, .int (bI pw), .int (bI mk), .int (nI lc), .int (nI cu), .int (nI cs)])), (a1, .inl (k1, 384, .inl fw)), (a2, .inl (k2, 384, .inl (lx fb lq mo fd (k + 1)))), (a3, .inl (k3, 384, .inl fb)), (a4, .inl (k4, 24, .inl (fun j => bI (dz j)))), (a5, .inl (k5, 24, .inl (fun j => bI (lq j))))] H := by rw [lx_n hno]; exact hP
              have hD : va_D A [(h0, .inr (0, [.ref a1, .ref a2, .ref a3, .ref a4, .ref a5, .int (bI pw), .int (bI mk), .int (nI lc), .int (nI cu), .int (nI cs)])), (a1, .inl (k1, 384, .inl fw)), (a2, .inl (k2, 384, .inl (lx fb lq mo fd (k + 1)))), (a3, .inl (k3, 384, .inl fb)), (a4, .inl (k4, 24, .inl (fun j => bI (dz j)))), (a5, .inl (k5, 24, .inl (fun j => bI (lq j))))] := by rw [lx_n hno]; exact hD
              have hl : lv_has ls 4 [(3, .int (nI k)), (2, .int (nI (cnt lq (k + 1)))), (1, .int (nI mo)), (0, .ref h0)] := by rw [cnt_f hz]; exact hl
              refine lv_iinc (v := (nI (k + 1))) (lv' := [(3, .int (nI (k + 1))), (2, .int (nI (cnt lq (k + 1)))), (1, .int (nI mo)), (0, .ref h0)]) hx hb dX0_bringLogToDisk_39 hl (k := 0) rfl (nI_1 _) (by decide) rfl (fun ls hl => ?_)
              refine lv_goto (tgt := 4) hx hb dX0_bringLogToDisk_42 (by decide) ?_
              exact ih (k + 1) (by omega) ls H locs (lv_sub hl [0, 1, 2, 3] rfl) hP hD hS
            · -- F of pc 21
              exact absurd (by decide) c_4
      | true =>
        refine lv_iload_n hx hb dX0_bringLogToDisk_4 rfl (lv_at hl 0 rfl) ?_
        refine lv_bipush (v := 24) hx hb dX0_bringLogToDisk_5 (by decide) ?_
        refine lv_icmp_ge (tgt := 45) hx hb dX0_bringLogToDisk_7 (by decide) (fun c_5 => ?_) (fun c_5 => ?_)
        · -- T of pc 7
          exact absurd c_5 (show ¬ nI 24 ≤ nI k from nI_ge (by omega) (by decide))
        · -- F of pc 7
          refine lv_iload_n hx hb dX0_bringLogToDisk_10 rfl (lv_at hl 1 rfl) ?_
          refine lv_iload_n hx hb dX0_bringLogToDisk_11 rfl (lv_at hl 2 rfl) ?_
          refine lv_icmp_ge (tgt := 45) hx hb dX0_bringLogToDisk_12 (by decide) (fun c_6 => ?_) (fun c_6 => ?_)
          · -- T of pc 12
            have e1 : lx fb lq mo fd 24 = lx fb lq mo fd k := by
              have h9 : mo ≤ cnt lq k := (nI_leI (by omega) (by omega)).mp c_6
              have h8 := lx_stop (f := fb) (g := fd) h9 (n + 1)
              rwa [show k + (n + 1) = 24 by omega] at h8
            rw [← e1] at hP hD
            have hP : va_P D vwCl [(h0, .inr (0, [.ref a1, .ref a2, .ref a3, .ref a4, .ref a5, .int (bI pw), .int (bI mk), .int (nI lc), .int (nI cu), .int (nI cs)])), (a1, .inl (k1, 384, .inl fw)), (a2, .inl (k2, 384, .inl (lx fb lq mo fd 24))), (a3, .inl (k3, 384, .inl fb)), (a4, .inl (k4, 24, .inl (fun j => bI (dz j)))), (a5, .inl (k5, 24, .inl (fun j => bI (lq j))))] H := hP
            have hD : va_D _ [(h0, .inr (0, [.ref a1, .ref a2, .ref a3, .ref a4, .ref a5, .int (bI pw), .int (bI mk), .int (nI lc), .int (nI cu), .int (nI cs)])), (a1, .inl (k1, 384, .inl fw)), (a2, .inl (k2, 384, .inl (lx fb lq mo fd 24))), (a3, .inl (k3, 384, .inl fb)), (a4, .inl (k4, 24, .inl (fun j => bI (dz j)))), (a5, .inl (k5, 24, .inl (fun j => bI (lq j))))] := hD
            exact hret _ _ _ _ hP hD hS dX0_bringLogToDisk_45
          · -- F of pc 12
            have hlt : cnt lq k < mo := by
              rcases Nat.lt_or_ge (cnt lq k) mo with q | q
              · exact q
              · exact absurd (nI_le q (by omega)) c_6
            refine lv_aload_n hx hb dX0_bringLogToDisk_15 rfl (lv_at hl 3 rfl) ?_
            refine va_get (ci := 0) (v := .ref a5) (C := RX0) (T := TX0) (N := 10) hx hb hts (by decide +kernel) hown hK hP 0 rfl rfl 4 (by decide) (hts (.fieldLink RX0 23 "CommitLog" "logged" "[Z") (by decide +kernel)) (fun _ h9 => h9) rfl dX0_bringLogToDisk_16 ?_
            refine lv_iload_n hx hb dX0_bringLogToDisk_19 rfl (lv_at hl 0 rfl) ?_
            refine va_zald hx hb hK hP 5 4 rfl rfl (vp_in_nI (by omega) (by decide)) dX0_bringLogToDisk_20 ?_
            refine tp_as (z := 1) (by rw [cl_nI (by omega)]; exact (by rw [hz]; rfl)) ?_
            refine lv_if_eq (tgt := 39) hx hb dX0_bringLogToDisk_21 (by decide) (fun c_7 => ?_) (fun c_7 => ?_)
            · -- T of pc 21
              exact absurd c_7 (by decide)
            · -- F of pc 21
              refine lv_aload_n hx hb dX0_bringLogToDisk_24 rfl (lv_at hl 3 rfl) ?_
              refine va_get (ci := 0) (v := .ref a3) (C := RX0) (T := TX0) (N := 10) hx hb hts (by decide +kernel) hown hK hP 0 rfl rfl 2 (by decide) (hts (.fieldLink RX0 16 "CommitLog" "logBytes" "[I") (by decide +kernel)) (fun _ h9 => h9) rfl dX0_bringLogToDisk_25 ?_
              refine lv_aload_n hx hb dX0_bringLogToDisk_28 rfl (lv_at hl 3 rfl) ?_
              refine va_get (ci := 0) (v := .ref a2) (C := RX0) (T := TX0) (N := 10) hx hb hts (by decide +kernel) hown hK hP 0 rfl rfl 1 (by decide) (hts (.fieldLink RX0 13 "CommitLog" "onDisk" "[I") (by decide +kernel)) (fun _ h9 => h9) rfl dX0_bringLogToDisk_29 ?_
              refine lv_iload_n hx hb dX0_bringLogToDisk_32 rfl (lv_at hl 0 rfl) ?_
              refine ct_Sv (As := [.ref a3, .ref a2, .int (nI k)]) (rest := []) (wr := [(h0, .inr (0, [.ref a1, .ref a2, .ref a3, .ref a4, .ref a5, .int (bI pw), .int (bI mk), .int (nI lc), .int (nI cu), .int (nI cs)])), (a1, .inl (k1, 384, .inl fw)), (a4, .inl (k4, 24, .inl (fun j => bI (dz j)))), (a5, .inl (k5, 24, .inl (fun j => bI (lq j))))]) (wn := [(h0, .inr (0, [.ref a1, .ref a2, .ref a3, .ref a4, .ref a5, .int (bI pw), .int (bI mk), .int (nI lc), .int (nI cu), .int (nI cs)])), (a1, .inl (k1, 384, .inl fw)), (a2, .inl (k2, 384, .inl (va_cpy fb (lx fb lq mo fd k) (k * 16) (k * 16) 16))), (a3, .inl (k3, 384, .inl fb)), (a4, .inl (k4, 24, .inl (fun j => bI (dz j)))), (a5, .inl (k5, 24, .inl (fun j => bI (lq j))))]) ⟨hx, hb, hml, hown, hts⟩ (c0_copyBlock l D a3 a2 k3 k2 fb (lx fb lq mo fd k) k (by omega)) (va_cwS 3 hts gX0_bringLogToDisk_X0_copyBlock rfl rfl rfl (by decide +kernel) ⟨Nat.le_of_ble_eq_true rfl, Nat.le_of_ble_eq_true rfl⟩) hK hP hD hS hA [3, 2] [0, 1, 4, 5] [2, 1] [0, 1, 5, 4, 2, 3] rfl rfl (by decide) rfl (by decide) (by decide) rfl (by decide) rfl hl.1 rfl (Nat.le_of_ble_eq_true rfl) dX0_bringLogToDisk_33 ⟨Nat.zero_le _, Nat.zero_le _⟩ (fun H locs hP hD hS => ?_)
              have hP : va_P D vwCl [(h0, .inr (0, [.ref a1, .ref a2, .ref a3, .ref a4, .ref a5, .int (bI pw), .int (bI mk), .int (nI lc), .int (nI cu), .int (nI cs)])), (a1, .inl (k1, 384, .inl fw)), (a2, .inl (k2, 384, .inl (lx fb lq mo fd (k + 1)))), (a3, .inl (k3, 384, .inl fb)), (a4, .inl (k4, 24, .inl (fun j => bI (dz j)))), (a5, .inl (k5, 24, .inl (fun j => bI (lq j))))] H := by rw [lx_y ⟨hz, hlt⟩]; exact hP
              have hD : va_D A [(h0, .inr (0, [.ref a1, .ref a2, .ref a3, .ref a4, .ref a5, .int (bI pw), .int (bI mk), .int (nI lc), .int (nI cu), .int (nI cs)])), (a1, .inl (k1, 384, .inl fw)), (a2, .inl (k2, 384, .inl (lx fb lq mo fd (k + 1)))), (a3, .inl (k3, 384, .inl fb)), (a4, .inl (k4, 24, .inl (fun j => bI (dz j)))), (a5, .inl (k5, 24, .inl (fun j => bI (lq j))))] := by rw [lx_y ⟨hz, hlt⟩]; exact hD
              refine lv_iinc (v := (nI (cnt lq (k + 1)))) (lv' := [(2, .int (nI (cnt lq (k + 1)))), (3, .int (nI k)), (1, .int (nI mo)), (0, .ref h0)]) hx hb dX0_bringLogToDisk_36 hl (k := 1) rfl (by rw [cnt_t hz]; exact nI_1 _) (by decide) rfl (fun ls hl => ?_)
              refine lv_iinc (v := (nI (k + 1))) (lv' := [(3, .int (nI (k + 1))), (2, .int (nI (cnt lq (k + 1)))), (1, .int (nI mo)), (0, .ref h0)]) hx hb dX0_bringLogToDisk_39 hl (k := 1) rfl (nI_1 _) (by decide) rfl (fun ls hl => ?_)
              refine lv_goto (tgt := 4) hx hb dX0_bringLogToDisk_42 (by decide) ?_
              exact ih (k + 1) (by omega) ls H locs (lv_sub hl [0, 1, 2, 3] rfl) hP hD hS
  exact loop 24 0 rfl ls _ _ (lv_sub hl [0, 1, 3, 2] rfl) hP hD hS
set_option maxHeartbeats 4000000 in
set_option maxRecDepth 100000 in
theorem c0_takeWork (l : Launch) (D : va_G) (h0 a1 a2 a3 a4 a5 : Nat) (k1 k2 k3 k4 k5 : ClassId) (fw fd fb : Nat → Int32) (lq dz : Nat → Bool) (pw mk : Bool) (lc cu cs : Nat) : ct_v l yX0_takeWorkFromDisk wsX0_takeWorkFromDisk ({ frames := 1, cells := 0, slots := 0, locals := 21 }) D vwCl (XT k1 k2 k3 k4 k5) [.ref h0] (XW h0 a1 a2 a3 a4 a5 k1 k2 k3 k4 k5 fw fd fb lq dz pw mk lc cu cs) (XW h0 a1 a2 a3 a4 a5 k1 k2 k3 k4 k5 (va_cpy fd fw 0 0 384) fd fb lq (clr dz 24) pw mk lc cu cs) := by
  refine ct_v.of (cc := cX0_takeWorkFromDisk) (maxL := 1) (by decide) rfl (Nat.le_of_ble_eq_true rfl) ?_
  intro p e s m args below meth c ls A Q hx hb hml hts hown hK hP hD hA hS hl hret
  have hown : s.vm.findClass RX0 = some m.cls := hown
  have hl : lv_has ls 1 [(0, .ref h0)] := hl
  have hP : va_P D vwCl [(h0, .inr (0, [.ref a1, .ref a2, .ref a3, .ref a4, .ref a5, .int (bI pw), .int (bI mk), .int (nI lc), .int (nI cu), .int (nI cs)])), (a1, .inl (k1, 384, .inl fw)), (a2, .inl (k2, 384, .inl fd)), (a3, .inl (k3, 384, .inl fb)), (a4, .inl (k4, 24, .inl (fun j => bI (dz j)))), (a5, .inl (k5, 24, .inl (fun j => bI (lq j))))] s.heap := hP
  have hD : va_D A [(h0, .inr (0, [.ref a1, .ref a2, .ref a3, .ref a4, .ref a5, .int (bI pw), .int (bI mk), .int (nI lc), .int (nI cu), .int (nI cs)])), (a1, .inl (k1, 384, .inl fw)), (a2, .inl (k2, 384, .inl fd)), (a3, .inl (k3, 384, .inl fb)), (a4, .inl (k4, 24, .inl (fun j => bI (dz j)))), (a5, .inl (k5, 24, .inl (fun j => bI (lq j))))] := hD
  refine lv_aload_n hx hb dX0_takeWorkFromDisk_0 rfl (lv_at hl 0 rfl) ?_
  refine va_get (ci := 0) (v := .ref a2) (C := RX0) (T := TX0) (N := 10) hx hb hts (by decide +kernel) hown hK hP 0 rfl rfl 1 (by decide) (hts (.fieldLink RX0 13 "CommitLog" "onDisk" "[I") (by decide +kernel)) (fun _ h9 => h9) rfl dX0_takeWorkFromDisk_1 ?_
  refine lv_iconst (v := 0) hx hb dX0_takeWorkFromDisk_4 (by decide) ?_
  refine lv_aload_n hx hb dX0_takeWorkFromDisk_5 rfl (lv_at hl 0 rfl) ?_
  refine va_get (ci := 0) (v := .ref a1) (C := RX0) (T := TX0) (N := 10) hx hb hts (by decide +kernel) hown hK hP 0 rfl rfl 0 (by decide) (hts (.fieldLink RX0 9 "CommitLog" "work" "[I") (by decide +kernel)) (fun _ h9 => h9) rfl dX0_takeWorkFromDisk_6 ?_
  refine lv_iconst (v := 0) hx hb dX0_takeWorkFromDisk_9 (by decide) ?_
  refine lv_sipush (v := 384) hx hb dX0_takeWorkFromDisk_10 (by decide) ?_
  refine va_copyi (ty := .int) hx hb (hml.trans hl.1.symm) hown (hts (.methodLink RX0 74 arraycopyName) (by decide +kernel)) (hts (.native arraycopyName) (by decide +kernel)) (hts (.static arraycopyName) (by decide +kernel)) (hts (.initialized "java/lang/System") (by decide +kernel)) hK hP hD hS 2 1 1 0 rfl rfl rfl rfl rfl (by decide) (by decide) (by decide) (by decide) (by decide) (fun _ _ => rfl) (Nat.le_of_ble_eq_true rfl) (Nat.le_of_ble_eq_true rfl) dX0_takeWorkFromDisk_13 (fun H locs hP hD hS => ?_)
  have hP : va_P D vwCl [(h0, .inr (0, [.ref a1, .ref a2, .ref a3, .ref a4, .ref a5, .int (bI pw), .int (bI mk), .int (nI lc), .int (nI cu), .int (nI cs)])), (a1, .inl (k1, 384, .inl (va_cpy fd fw 0 0 384))), (a2, .inl (k2, 384, .inl fd)), (a3, .inl (k3, 384, .inl fb)), (a4, .inl (k4, 24, .inl (fun j => bI (dz j)))), (a5, .inl (k5, 24, .inl (fun j => bI (lq j))))] H := hP
  have hD : va_D _ [(h0, .inr (0, [.ref a1, .ref a2, .ref a3, .ref a4, .ref a5, .int (bI pw), .int (bI mk), .int (nI lc), .int (nI cu), .int (nI cs)])), (a1, .inl (k1, 384, .inl (va_cpy fd fw 0 0 384))), (a2, .inl (k2, 384, .inl fd)), (a3, .inl (k3, 384, .inl fb)), (a4, .inl (k4, 24, .inl (fun j => bI (dz j)))), (a5, .inl (k5, 24, .inl (fun j => bI (lq j))))] := hD
  refine lv_aload_n hx hb dX0_takeWorkFromDisk_16 rfl (lv_at hl 0 rfl) ?_
  refine ct_Vv (As := []) (rest := []) (wr := []) (wn := [(h0, .inr (0, [.ref a1, .ref a2, .ref a3, .ref a4, .ref a5, .int (bI pw), .int (bI mk), .int (nI lc), .int (nI cu), .int (nI cs)])), (a1, .inl (k1, 384, .inl (va_cpy fd fw 0 0 384))), (a2, .inl (k2, 384, .inl fd)), (a3, .inl (k3, 384, .inl fb)), (a4, .inl (k4, 24, .inl (fun j => bI (clr dz 24 j)))), (a5, .inl (k5, 24, .inl (fun j => bI (lq j))))]) ⟨hx, hb, hml, hown, hts⟩ (c0_clearWritten l D h0 a1 a2 a3 a4 a5 k1 k2 k3 k4 k5 (va_cpy fd fw 0 0 384) fd fb lq dz pw mk lc cu cs) (cwV 0 hts gX0_takeWorkFromDisk_X0_clearWritten rfl rfl rfl (by decide +kernel) ⟨Nat.le_of_ble_eq_true rfl, Nat.le_of_ble_eq_true rfl⟩) hK hP hD hS hA [0, 1, 2, 3, 4, 5] [] [0, 1, 2, 3, 4] [0, 1, 2, 3, 4, 5] rfl rfl (by decide) rfl (by decide) (by decide) rfl (by decide) 0 rfl 0 rfl rfl hl.1 rfl (Nat.le_of_ble_eq_true rfl) dX0_takeWorkFromDisk_17 ⟨Nat.zero_le _, Nat.zero_le _⟩ (fun H locs hP hD hS => ?_)
  exact hret _ _ _ _ hP hD hS dX0_takeWorkFromDisk_20
end
section
/-! The class: its public methods but commit and start. -/
theorem dz_0 {b : Bool} (h : bI b = 0) : 0 = bI b := h.symm
theorem dz_1 {b : Bool} (h : ¬ bI b = 0) : 1 = bI b := by rw [dz_t h]; rfl
def xwr (fw : Nat → Int32) (dz : Nat → Bool) (pw : Bool) (b q v : Int32) : (Nat → Int32) × (Nat → Bool) × Bool := match pw, ix 24 b, ix 16 q with
  | true, some i, some j => (upd fw (i * 16 + j) (v &&& 255), va_up dz i true, true)
  | _, _, _ => (fw, dz, false)
def xrd (pw : Bool) (f : Nat → Int32) (b q : Int32) : Int32 := match pw, ix 24 b, ix 16 q with
  | true, some i, some j => f (i * 16 + j)
  | _, _, _ => -1
def xdt (pw : Bool) (dz : Nat → Bool) (b : Int32) : Bool := match pw, ix 24 b with
  | true, some i => dz i
  | _, _ => false
def xct (pw : Bool) (cu cs : Nat) (n t : Int32) : Nat × Nat × Bool := match pw, ix 1001 n, ix 1000 t with
  | true, some (k + 1), some j => (k + 1, j, true)
  | _, _, _ => (cu, cs, false)
def xst (pw mk : Bool) (lc : Nat) (x : Int32) : Int32 := match ix 3 x with
  | some 0 => bI pw
  | some 1 => bI mk
  | some 2 => nI lc
  | _ => -1
set_option maxHeartbeats 4000000 in
set_option maxRecDepth 100000 in
theorem c0_write (l : Launch) (D : va_G) (h0 a1 a2 a3 a4 a5 : Nat) (k1 k2 k3 k4 k5 : ClassId) (fw fd fb : Nat → Int32) (lq dz : Nat → Bool) (pw mk : Bool) (lc cu cs : Nat) (b q v : Int32) : ct_i l yX0_write wsX0_write ({ frames := 1, cells := 0, slots := 0, locals := 20 }) D vwCl (XT k1 k2 k3 k4 k5) [.ref h0, .int b, .int q, .int v] (XW h0 a1 a2 a3 a4 a5 k1 k2 k3 k4 k5 fw fd fb lq dz pw mk lc cu cs) (XW h0 a1 a2 a3 a4 a5 k1 k2 k3 k4 k5 ((xwr fw dz pw b q v).1) fd fb lq ((xwr fw dz pw b q v).2.1) pw mk lc cu cs) (bI (xwr fw dz pw b q v).2.2) := by
  cases pw with
  | false =>
    simp only [xwr]
    refine ct_i.of (cc := cX0_write) (maxL := 4) (ty := .boolean) (by decide) rfl (Nat.le_of_ble_eq_true rfl) (nb_bI _) ?_
    intro p e s m args below meth c ls A Q hx hb hml hts hown hK hP hD hA hS hl hret
    have hown : s.vm.findClass RX0 = some m.cls := hown
    have hl : lv_has ls 4 [(0, .ref h0), (1, .int b), (2, .int q), (3, .int v)] := hl
    have hP : va_P D vwCl [(h0, .inr (0, [.ref a1, .ref a2, .ref a3, .ref a4, .ref a5, .int 0, .int (bI mk), .int (nI lc), .int (nI cu), .int (nI cs)])), (a1, .inl (k1, 384, .inl fw)), (a2, .inl (k2, 384, .inl fd)), (a3, .inl (k3, 384, .inl fb)), (a4, .inl (k4, 24, .inl (fun j => bI (dz j)))), (a5, .inl (k5, 24, .inl (fun j => bI (lq j))))] s.heap := hP
    have hD : va_D A [(h0, .inr (0, [.ref a1, .ref a2, .ref a3, .ref a4, .ref a5, .int 0, .int (bI mk), .int (nI lc), .int (nI cu), .int (nI cs)])), (a1, .inl (k1, 384, .inl fw)), (a2, .inl (k2, 384, .inl fd)), (a3, .inl (k3, 384, .inl fb)), (a4, .inl (k4, 24, .inl (fun j => bI (dz j)))), (a5, .inl (k5, 24, .inl (fun j => bI (lq j))))] := hD
    refine lv_aload_n hx hb dX0_write_0 rfl (lv_at hl 0 rfl) ?_
    refine va_get (ci := 0) (v := .int 0) (C := RX0) (T := TX0) (N := 10) hx hb hts (by decide +kernel) hown hK hP 0 rfl rfl 5 (by decide) (hts (.fieldLink RX0 26 "CommitLog" "powered" "Z") (by decide +kernel)) (fun _ h9 => h9) rfl dX0_write_1 ?_
    refine lv_if_eq (tgt := 21) hx hb dX0_write_4 (by decide) (fun c_1 => ?_) (fun c_1 => ?_)
    · -- T of pc 4
      refine lv_iconst (v := 0) hx hb dX0_write_21 (by decide) ?_
      exact hret _ _ _ _ _ hP hD hS rfl dX0_write_22
    · -- F of pc 4
      exact absurd (by decide) c_1
  | true =>
    rcases ix_cases 24 (by decide) b with ⟨e1, -⟩ | ⟨i, hi, rfl, e1⟩
    · simp only [xwr, e1]
      refine ct_i.of (cc := cX0_write) (maxL := 4) (ty := .boolean) (by decide) rfl (Nat.le_of_ble_eq_true rfl) (nb_bI _) ?_
      intro p e s m args below meth c ls A Q hx hb hml hts hown hK hP hD hA hS hl hret
      have hown : s.vm.findClass RX0 = some m.cls := hown
      have hl : lv_has ls 4 [(0, .ref h0), (1, .int b), (2, .int q), (3, .int v)] := hl
      have hP : va_P D vwCl [(h0, .inr (0, [.ref a1, .ref a2, .ref a3, .ref a4, .ref a5, .int 1, .int (bI mk), .int (nI lc), .int (nI cu), .int (nI cs)])), (a1, .inl (k1, 384, .inl fw)), (a2, .inl (k2, 384, .inl fd)), (a3, .inl (k3, 384, .inl fb)), (a4, .inl (k4, 24, .inl (fun j => bI (dz j)))), (a5, .inl (k5, 24, .inl (fun j => bI (lq j))))] s.heap := hP
      have hD : va_D A [(h0, .inr (0, [.ref a1, .ref a2, .ref a3, .ref a4, .ref a5, .int 1, .int (bI mk), .int (nI lc), .int (nI cu), .int (nI cs)])), (a1, .inl (k1, 384, .inl fw)), (a2, .inl (k2, 384, .inl fd)), (a3, .inl (k3, 384, .inl fb)), (a4, .inl (k4, 24, .inl (fun j => bI (dz j)))), (a5, .inl (k5, 24, .inl (fun j => bI (lq j))))] := hD
      refine lv_aload_n hx hb dX0_write_0 rfl (lv_at hl 0 rfl) ?_
      refine va_get (ci := 0) (v := .int 1) (C := RX0) (T := TX0) (N := 10) hx hb hts (by decide +kernel) hown hK hP 0 rfl rfl 5 (by decide) (hts (.fieldLink RX0 26 "CommitLog" "powered" "Z") (by decide +kernel)) (fun _ h9 => h9) rfl dX0_write_1 ?_
      refine lv_if_eq (tgt := 21) hx hb dX0_write_4 (by decide) (fun c_1 => ?_) (fun c_1 => ?_)
      · -- T of pc 4
        exact absurd c_1 (by decide)
      · -- F of pc 4
        refine lv_iload_n hx hb dX0_write_7 rfl (lv_at hl 1 rfl) ?_
        refine ct_Si (As := [.int b]) (rest := []) (wr := [(h0, .inr (0, [.ref a1, .ref a2, .ref a3, .ref a4, .ref a5, .int 1, .int (bI mk), .int (nI lc), .int (nI cu), .int (nI cs)])), (a1, .inl (k1, 384, .inl fw)), (a2, .inl (k2, 384, .inl fd)), (a3, .inl (k3, 384, .inl fb)), (a4, .inl (k4, 24, .inl (fun j => bI (dz j)))), (a5, .inl (k5, 24, .inl (fun j => bI (lq j))))]) (wn := [(h0, .inr (0, [.ref a1, .ref a2, .ref a3, .ref a4, .ref a5, .int 1, .int (bI mk), .int (nI lc), .int (nI cu), .int (nI cs)])), (a1, .inl (k1, 384, .inl fw)), (a2, .inl (k2, 384, .inl fd)), (a3, .inl (k3, 384, .inl fb)), (a4, .inl (k4, 24, .inl (fun j => bI (dz j)))), (a5, .inl (k5, 24, .inl (fun j => bI (lq j))))]) ⟨hx, hb, hml, hown, hts⟩ (c0_isBlock l D b) (va_cwS 1 hts gX0_write_X0_isBlock rfl rfl rfl (by decide +kernel) ⟨Nat.le_of_ble_eq_true rfl, Nat.le_of_ble_eq_true rfl⟩) hK hP hD hS hA [] [0, 1, 2, 3, 4, 5] [] [0, 1, 2, 3, 4, 5] rfl rfl (by decide) rfl (by decide) (by decide) rfl (by decide) rfl hl.1 rfl (Nat.le_of_ble_eq_true rfl) dX0_write_8 ⟨Nat.zero_le _, Nat.zero_le _⟩ (fun H locs hP hD hS => ?_)
        refine tp_as (z := 0) (by rw [e1]; rfl) ?_
        refine lv_if_eq (tgt := 21) hx hb dX0_write_11 (by decide) (fun c_2 => ?_) (fun c_2 => ?_)
        · -- T of pc 11
          refine lv_iconst (v := 0) hx hb dX0_write_21 (by decide) ?_
          exact hret _ _ _ _ _ hP hD hS rfl dX0_write_22
        · -- F of pc 11
          exact absurd (by decide) c_2
    · rcases ix_cases 16 (by decide) q with ⟨e2, -⟩ | ⟨j, hj, rfl, e2⟩
      · simp only [xwr, e1, e2]
        refine ct_i.of (cc := cX0_write) (maxL := 4) (ty := .boolean) (by decide) rfl (Nat.le_of_ble_eq_true rfl) (nb_bI _) ?_
        intro p e s m args below meth c ls A Q hx hb hml hts hown hK hP hD hA hS hl hret
        have hown : s.vm.findClass RX0 = some m.cls := hown
        have hl : lv_has ls 4 [(0, .ref h0), (1, .int (nI i)), (2, .int q), (3, .int v)] := hl
        have hP : va_P D vwCl [(h0, .inr (0, [.ref a1, .ref a2, .ref a3, .ref a4, .ref a5, .int 1, .int (bI mk), .int (nI lc), .int (nI cu), .int (nI cs)])), (a1, .inl (k1, 384, .inl fw)), (a2, .inl (k2, 384, .inl fd)), (a3, .inl (k3, 384, .inl fb)), (a4, .inl (k4, 24, .inl (fun j => bI (dz j)))), (a5, .inl (k5, 24, .inl (fun j => bI (lq j))))] s.heap := hP
        have hD : va_D A [(h0, .inr (0, [.ref a1, .ref a2, .ref a3, .ref a4, .ref a5, .int 1, .int (bI mk), .int (nI lc), .int (nI cu), .int (nI cs)])), (a1, .inl (k1, 384, .inl fw)), (a2, .inl (k2, 384, .inl fd)), (a3, .inl (k3, 384, .inl fb)), (a4, .inl (k4, 24, .inl (fun j => bI (dz j)))), (a5, .inl (k5, 24, .inl (fun j => bI (lq j))))] := hD
        refine lv_aload_n hx hb dX0_write_0 rfl (lv_at hl 0 rfl) ?_
        refine va_get (ci := 0) (v := .int 1) (C := RX0) (T := TX0) (N := 10) hx hb hts (by decide +kernel) hown hK hP 0 rfl rfl 5 (by decide) (hts (.fieldLink RX0 26 "CommitLog" "powered" "Z") (by decide +kernel)) (fun _ h9 => h9) rfl dX0_write_1 ?_
        refine lv_if_eq (tgt := 21) hx hb dX0_write_4 (by decide) (fun c_1 => ?_) (fun c_1 => ?_)
        · -- T of pc 4
          exact absurd c_1 (by decide)
        · -- F of pc 4
          refine lv_iload_n hx hb dX0_write_7 rfl (lv_at hl 1 rfl) ?_
          refine ct_Si (As := [.int (nI i)]) (rest := []) (wr := [(h0, .inr (0, [.ref a1, .ref a2, .ref a3, .ref a4, .ref a5, .int 1, .int (bI mk), .int (nI lc), .int (nI cu), .int (nI cs)])), (a1, .inl (k1, 384, .inl fw)), (a2, .inl (k2, 384, .inl fd)), (a3, .inl (k3, 384, .inl fb)), (a4, .inl (k4, 24, .inl (fun j => bI (dz j)))), (a5, .inl (k5, 24, .inl (fun j => bI (lq j))))]) (wn := [(h0, .inr (0, [.ref a1, .ref a2, .ref a3, .ref a4, .ref a5, .int 1, .int (bI mk), .int (nI lc), .int (nI cu), .int (nI cs)])), (a1, .inl (k1, 384, .inl fw)), (a2, .inl (k2, 384, .inl fd)), (a3, .inl (k3, 384, .inl fb)), (a4, .inl (k4, 24, .inl (fun j => bI (dz j)))), (a5, .inl (k5, 24, .inl (fun j => bI (lq j))))]) ⟨hx, hb, hml, hown, hts⟩ (c0_isBlock l D (nI i)) (va_cwS 1 hts gX0_write_X0_isBlock rfl rfl rfl (by decide +kernel) ⟨Nat.le_of_ble_eq_true rfl, Nat.le_of_ble_eq_true rfl⟩) hK hP hD hS hA [] [0, 1, 2, 3, 4, 5] [] [0, 1, 2, 3, 4, 5] rfl rfl (by decide) rfl (by decide) (by decide) rfl (by decide) rfl hl.1 rfl (Nat.le_of_ble_eq_true rfl) dX0_write_8 ⟨Nat.zero_le _, Nat.zero_le _⟩ (fun H locs hP hD hS => ?_)
          refine tp_as (z := 1) (by rw [e1]; rfl) ?_
          refine lv_if_eq (tgt := 21) hx hb dX0_write_11 (by decide) (fun c_2 => ?_) (fun c_2 => ?_)
          · -- T of pc 11
            exact absurd c_2 (by decide)
          · -- F of pc 11
            refine lv_iload_n hx hb dX0_write_14 rfl (lv_at hl 2 rfl) ?_
            refine ct_Si (As := [.int q]) (rest := []) (wr := [(h0, .inr (0, [.ref a1, .ref a2, .ref a3, .ref a4, .ref a5, .int 1, .int (bI mk), .int (nI lc), .int (nI cu), .int (nI cs)])), (a1, .inl (k1, 384, .inl fw)), (a2, .inl (k2, 384, .inl fd)), (a3, .inl (k3, 384, .inl fb)), (a4, .inl (k4, 24, .inl (fun j => bI (dz j)))), (a5, .inl (k5, 24, .inl (fun j => bI (lq j))))]) (wn := [(h0, .inr (0, [.ref a1, .ref a2, .ref a3, .ref a4, .ref a5, .int 1, .int (bI mk), .int (nI lc), .int (nI cu), .int (nI cs)])), (a1, .inl (k1, 384, .inl fw)), (a2, .inl (k2, 384, .inl fd)), (a3, .inl (k3, 384, .inl fb)), (a4, .inl (k4, 24, .inl (fun j => bI (dz j)))), (a5, .inl (k5, 24, .inl (fun j => bI (lq j))))]) ⟨hx, hb, hml, hown, hts⟩ (c0_isPlace l D q) (va_cwS 1 hts gX0_write_X0_isPlace rfl rfl rfl (by decide +kernel) ⟨Nat.le_of_ble_eq_true rfl, Nat.le_of_ble_eq_true rfl⟩) hK hP hD hS hA [] [0, 1, 2, 3, 4, 5] [] [0, 1, 2, 3, 4, 5] rfl rfl (by decide) rfl (by decide) (by decide) rfl (by decide) rfl hl.1 rfl (Nat.le_of_ble_eq_true rfl) dX0_write_15 ⟨Nat.zero_le _, Nat.zero_le _⟩ (fun H locs hP hD hS => ?_)
            refine tp_as (z := 0) (by rw [e2]; rfl) ?_
            refine lv_if_ne (tgt := 23) hx hb dX0_write_18 (by decide) (fun c_3 => ?_) (fun c_3 => ?_)
            · -- T of pc 18
              exact absurd (by decide) c_3
            · -- F of pc 18
              refine lv_iconst (v := 0) hx hb dX0_write_21 (by decide) ?_
              exact hret _ _ _ _ _ hP hD hS rfl dX0_write_22
      · simp only [xwr, e1, e2]
        refine ct_i.of (cc := cX0_write) (maxL := 4) (ty := .boolean) (by decide) rfl (Nat.le_of_ble_eq_true rfl) (nb_bI _) ?_
        intro p e s m args below meth c ls A Q hx hb hml hts hown hK hP hD hA hS hl hret
        have hown : s.vm.findClass RX0 = some m.cls := hown
        have hl : lv_has ls 4 [(0, .ref h0), (1, .int (nI i)), (2, .int (nI j)), (3, .int v)] := hl
        have hP : va_P D vwCl [(h0, .inr (0, [.ref a1, .ref a2, .ref a3, .ref a4, .ref a5, .int 1, .int (bI mk), .int (nI lc), .int (nI cu), .int (nI cs)])), (a1, .inl (k1, 384, .inl fw)), (a2, .inl (k2, 384, .inl fd)), (a3, .inl (k3, 384, .inl fb)), (a4, .inl (k4, 24, .inl (fun j => bI (dz j)))), (a5, .inl (k5, 24, .inl (fun j => bI (lq j))))] s.heap := hP
        have hD : va_D A [(h0, .inr (0, [.ref a1, .ref a2, .ref a3, .ref a4, .ref a5, .int 1, .int (bI mk), .int (nI lc), .int (nI cu), .int (nI cs)])), (a1, .inl (k1, 384, .inl fw)), (a2, .inl (k2, 384, .inl fd)), (a3, .inl (k3, 384, .inl fb)), (a4, .inl (k4, 24, .inl (fun j => bI (dz j)))), (a5, .inl (k5, 24, .inl (fun j => bI (lq j))))] := hD
        refine lv_aload_n hx hb dX0_write_0 rfl (lv_at hl 0 rfl) ?_
        refine va_get (ci := 0) (v := .int 1) (C := RX0) (T := TX0) (N := 10) hx hb hts (by decide +kernel) hown hK hP 0 rfl rfl 5 (by decide) (hts (.fieldLink RX0 26 "CommitLog" "powered" "Z") (by decide +kernel)) (fun _ h9 => h9) rfl dX0_write_1 ?_
        refine lv_if_eq (tgt := 21) hx hb dX0_write_4 (by decide) (fun c_1 => ?_) (fun c_1 => ?_)
        · -- T of pc 4
          exact absurd c_1 (by decide)
        · -- F of pc 4
          refine lv_iload_n hx hb dX0_write_7 rfl (lv_at hl 1 rfl) ?_
          refine ct_Si (As := [.int (nI i)]) (rest := []) (wr := [(h0, .inr (0, [.ref a1, .ref a2, .ref a3, .ref a4, .ref a5, .int 1, .int (bI mk), .int (nI lc), .int (nI cu), .int (nI cs)])), (a1, .inl (k1, 384, .inl fw)), (a2, .inl (k2, 384, .inl fd)), (a3, .inl (k3, 384, .inl fb)), (a4, .inl (k4, 24, .inl (fun j => bI (dz j)))), (a5, .inl (k5, 24, .inl (fun j => bI (lq j))))]) (wn := [(h0, .inr (0, [.ref a1, .ref a2, .ref a3, .ref a4, .ref a5, .int 1, .int (bI mk), .int (nI lc), .int (nI cu), .int (nI cs)])), (a1, .inl (k1, 384, .inl fw)), (a2, .inl (k2, 384, .inl fd)), (a3, .inl (k3, 384, .inl fb)), (a4, .inl (k4, 24, .inl (fun j => bI (dz j)))), (a5, .inl (k5, 24, .inl (fun j => bI (lq j))))]) ⟨hx, hb, hml, hown, hts⟩ (c0_isBlock l D (nI i)) (va_cwS 1 hts gX0_write_X0_isBlock rfl rfl rfl (by decide +kernel) ⟨Nat.le_of_ble_eq_true rfl, Nat.le_of_ble_eq_true rfl⟩) hK hP hD hS hA [] [0, 1, 2, 3, 4, 5] [] [0, 1, 2, 3, 4, 5] rfl rfl (by decide) rfl (by decide) (by decide) rfl (by decide) rfl hl.1 rfl (Nat.le_of_ble_eq_true rfl) dX0_write_8 ⟨Nat.zero_le _, Nat.zero_le _⟩ (fun H locs hP hD hS => ?_)
          refine tp_as (z := 1) (by rw [e1]; rfl) ?_
          refine lv_if_eq (tgt := 21) hx hb dX0_write_11 (by decide) (fun c_2 => ?_) (fun c_2 => ?_)
          · -- T of pc 11
            exact absurd c_2 (by decide)
          · -- F of pc 11
            refine lv_iload_n hx hb dX0_write_14 rfl (lv_at hl 2 rfl) ?_
            refine ct_Si (As := [.int (nI j)]) (rest := []) (wr := [(h0, .inr (0, [.ref a1, .ref a2, .ref a3, .ref a4, .ref a5, .int 1, .int (bI mk), .int (nI lc), .int (nI cu), .int (nI cs)])), (a1, .inl (k1, 384, .inl fw)), (a2, .inl (k2, 384, .inl fd)), (a3, .inl (k3, 384, .inl fb)), (a4, .inl (k4, 24, .inl (fun j => bI (dz j)))), (a5, .inl (k5, 24, .inl (fun j => bI (lq j))))]) (wn := [(h0, .inr (0, [.ref a1, .ref a2, .ref a3, .ref a4, .ref a5, .int 1, .int (bI mk), .int (nI lc), .int (nI cu), .int (nI cs)])), (a1, .inl (k1, 384, .inl fw)), (a2, .inl (k2, 384, .inl fd)), (a3, .inl (k3, 384, .inl fb)), (a4, .inl (k4, 24, .inl (fun j => bI (dz j)))), (a5, .inl (k5, 24, .inl (fun j => bI (lq j))))]) ⟨hx, hb, hml, hown, hts⟩ (c0_isPlace l D (nI j)) (va_cwS 1 hts gX0_write_X0_isPlace rfl rfl rfl (by decide +kernel) ⟨Nat.le_of_ble_eq_true rfl, Nat.le_of_ble_eq_true rfl⟩) hK hP hD hS hA [] [0, 1, 2, 3, 4, 5] [] [0, 1, 2, 3, 4, 5] rfl rfl (by decide) rfl (by decide) (by decide) rfl (by decide) rfl hl.1 rfl (Nat.le_of_ble_eq_true rfl) dX0_write_15 ⟨Nat.zero_le _, Nat.zero_le _⟩ (fun H locs hP hD hS => ?_)
            refine tp_as (z := 1) (by rw [e2]; rfl) ?_
            refine lv_if_ne (tgt := 23) hx hb dX0_write_18 (by decide) (fun c_3 => ?_) (fun c_3 => ?_)
            · -- T of pc 18
              refine lv_aload_n hx hb dX0_write_23 rfl (lv_at hl 0 rfl) ?_
              refine va_get (ci := 0) (v := .ref a1) (C := RX0) (T := TX0) (N := 10) hx hb hts (by decide +kernel) hown hK hP 0 rfl rfl 0 (by decide) (hts (.fieldLink RX0 9 "CommitLog" "work" "[I") (by decide +kernel)) (fun _ h9 => h9) rfl dX0_write_24 ?_
              refine lv_iload_n hx hb dX0_write_27 rfl (lv_at hl 1 rfl) ?_
              refine lv_bipush (v := 16) hx hb dX0_write_28 (by decide) ?_
              refine lv_imul hx hb dX0_write_30 ?_
              refine tp_as (z := nI (i * 16)) (pk_mul i 16) ?_
              refine lv_iload_n hx hb dX0_write_31 rfl (lv_at hl 2 rfl) ?_
              refine lv_iadd hx hb dX0_write_32 ?_
              refine tp_as (z := nI (i * 16 + j)) (nI_add _ _) ?_
              refine lv_iload_n hx hb dX0_write_33 rfl (lv_at hl 3 rfl) ?_
              refine lv_sipush (v := 255) hx hb dX0_write_34 (by decide) ?_
              refine lv_iand hx hb dX0_write_37 ?_
              refine va_iast hx hb hK hP hD hS 1 0 rfl rfl (vp_in_nI (by omega) (by decide)) dX0_write_38 (fun H locs hP hD hS => ?_)
              rw [cl_nI (show i * 16 + j < 2 ^ 31 by omega)] at hP hD
              have hP : va_P D vwCl [(h0, .inr (0, [.ref a1, .ref a2, .ref a3, .ref a4, .ref a5, .int 1, .int (bI mk), .int (nI lc), .int (nI cu), .int (nI cs)])), (a1, .inl (k1, 384, .inl (upd fw (i * 16 + j) (v &&& 255)))), (a2, .inl (k2, 384, .inl fd)), (a3, .inl (k3, 384, .inl fb)), (a4, .inl (k4, 24, .inl (fun j => bI (dz j)))), (a5, .inl (k5, 24, .inl (fun j => bI (lq j))))] H := hP
              have hD : va_D _ [(h0, .inr (0, [.ref a1, .ref a2, .ref a3, .ref a4, .ref a5, .int 1, .int (bI mk), .int (nI lc), .int (nI cu), .int (nI cs)])), (a1, .inl (k1, 384, .inl (upd fw (i * 16 + j) (v &&& 255)))), (a2, .inl (k2, 384, .inl fd)), (a3, .inl (k3, 384, .inl fb)), (a4, .inl (k4, 24, .inl (fun j => bI (dz j)))), (a5, .inl (k5, 24, .inl (fun j => bI (lq j))))] := hD
              refine lv_aload_n hx hb dX0_write_39 rfl (lv_at hl 0 rfl) ?_
              refine va_get (ci := 0) (v := .ref a4) (C := RX0) (T := TX0) (N := 10) hx hb hts (by decide +kernel) hown hK hP 0 rfl rfl 3 (by decide) (hts (.fieldLink RX0 19 "CommitLog" "written" "[Z") (by decide +kernel)) (fun _ h9 => h9) rfl dX0_write_40 ?_
              refine lv_iload_n hx hb dX0_write_43 rfl (lv_at hl 1 rfl) ?_
              refine lv_iconst (v := 1) hx hb dX0_write_44 (by decide) ?_
              refine va_zast hx hb hK hP hD hS 4 3 rfl rfl (vp_in_nI (by omega) (by decide)) dX0_write_45 (fun H locs hP hD hS => ?_)
              rw [cl_nI (show i < 2 ^ 31 by omega), show vp_nar .boolean 1 = bI true from rfl, up_bI] at hP hD
              have hP : va_P D vwCl [(h0, .inr (0, [.ref a1, .ref a2, .ref a3, .ref a4, .ref a5, .int 1, .int (bI mk), .int (nI lc), .int (nI cu), .int (nI cs)])), (a1, .inl (k1, 384, .inl (upd fw (i * 16 + j) (v &&& 255)))), (a2, .inl (k2, 384, .inl fd)), (a3, .inl (k3, 384, .inl fb)), (a4, .inl (k4, 24, .inl (fun j => bI (va_up dz i true j)))), (a5, .inl (k5, 24, .inl (fun j => bI (lq j))))] H := hP
              have hD : va_D _ [(h0, .inr (0, [.ref a1, .ref a2, .ref a3, .ref a4, .ref a5, .int 1, .int (bI mk), .int (nI lc), .int (nI cu), .int (nI cs)])), (a1, .inl (k1, 384, .inl (upd fw (i * 16 + j) (v &&& 255)))), (a2, .inl (k2, 384, .inl fd)), (a3, .inl (k3, 384, .inl fb)), (a4, .inl (k4, 24, .inl (fun j => bI (va_up dz i true j)))), (a5, .inl (k5, 24, .inl (fun j => bI (lq j))))] := hD
              refine lv_iconst (v := 1) hx hb dX0_write_46 (by decide) ?_
              exact hret _ _ _ _ _ hP hD hS rfl dX0_write_47
            · -- F of pc 18
              exact absurd c_3 (by decide)
set_option maxHeartbeats 4000000 in
set_option maxRecDepth 100000 in
theorem c0_read (l : Launch) (D : va_G) (h0 a1 a2 a3 a4 a5 : Nat) (k1 k2 k3 k4 k5 : ClassId) (fw fd fb : Nat → Int32) (lq dz : Nat → Bool) (pw mk : Bool) (lc cu cs : Nat) (b q : Int32) : ct_i l yX0_read wsX0_read ({ frames := 1, cells := 0, slots := 0, locals := 20 }) D vwCl (XT k1 k2 k3 k4 k5) [.ref h0, .int b, .int q] (XW h0 a1 a2 a3 a4 a5 k1 k2 k3 k4 k5 fw fd fb lq dz pw mk lc cu cs) (XW h0 a1 a2 a3 a4 a5 k1 k2 k3 k4 k5 fw fd fb lq dz pw mk lc cu cs) (xrd pw fw b q) := by
  cases pw with
  | false =>
    simp only [xrd]
    refine ct_i.of (cc := cX0_read) (maxL := 3) (ty := .int) (by decide) rfl (Nat.le_of_ble_eq_true rfl) rfl ?_
    intro p e s m args below meth c ls A Q hx hb hml hts hown hK hP hD hA hS hl hret
    have hown : s.vm.findClass RX0 = some m.cls := hown
    have hl : lv_has ls 3 [(0, .ref h0), (1, .int b), (2, .int q)] := hl
    have hP : va_P D vwCl [(h0, .inr (0, [.ref a1, .ref a2, .ref a3, .ref a4, .ref a5, .int 0, .int (bI mk), .int (nI lc), .int (nI cu), .int (nI cs)])), (a1, .inl (k1, 384, .inl fw)), (a2, .inl (k2, 384, .inl fd)), (a3, .inl (k3, 384, .inl fb)), (a4, .inl (k4, 24, .inl (fun j => bI (dz j)))), (a5, .inl (k5, 24, .inl (fun j => bI (lq j))))] s.heap := hP
    have hD : va_D A [(h0, .inr (0, [.ref a1, .ref a2, .ref a3, .ref a4, .ref a5, .int 0, .int (bI mk), .int (nI lc), .int (nI cu), .int (nI cs)])), (a1, .inl (k1, 384, .inl fw)), (a2, .inl (k2, 384, .inl fd)), (a3, .inl (k3, 384, .inl fb)), (a4, .inl (k4, 24, .inl (fun j => bI (dz j)))), (a5, .inl (k5, 24, .inl (fun j => bI (lq j))))] := hD
    refine lv_aload_n hx hb dX0_read_0 rfl (lv_at hl 0 rfl) ?_
    refine va_get (ci := 0) (v := .int 0) (C := RX0) (T := TX0) (N := 10) hx hb hts (by decide +kernel) hown hK hP 0 rfl rfl 5 (by decide) (hts (.fieldLink RX0 26 "CommitLog" "powered" "Z") (by decide +kernel)) (fun _ h9 => h9) rfl dX0_read_1 ?_
    refine lv_if_eq (tgt := 21) hx hb dX0_read_4 (by decide) (fun c_1 => ?_) (fun c_1 => ?_)
    · -- T of pc 4
      refine lv_iconst (v := (-1)) hx hb dX0_read_21 (by decide) ?_
      exact hret _ _ _ _ _ hP hD hS rfl dX0_read_22
    · -- F of pc 4
      exact absurd (by decide) c_1
  | true =>
    rcases ix_cases 24 (by decide) b with ⟨e1, -⟩ | ⟨i, hi, rfl, e1⟩
    · simp only [xrd, e1]
      refine ct_i.of (cc := cX0_read) (maxL := 3) (ty := .int) (by decide) rfl (Nat.le_of_ble_eq_true rfl) rfl ?_
      intro p e s m args below meth c ls A Q hx hb hml hts hown hK hP hD hA hS hl hret
      have hown : s.vm.findClass RX0 = some m.cls := hown
      have hl : lv_has ls 3 [(0, .ref h0), (1, .int b), (2, .int q)] := hl
      have hP : va_P D vwCl [(h0, .inr (0, [.ref a1, .ref a2, .ref a3, .ref a4, .ref a5, .int 1, .int (bI mk), .int (nI lc), .int (nI cu), .int (nI cs)])), (a1, .inl (k1, 384, .inl fw)), (a2, .inl (k2, 384, .inl fd)), (a3, .inl (k3, 384, .inl fb)), (a4, .inl (k4, 24, .inl (fun j => bI (dz j)))), (a5, .inl (k5, 24, .inl (fun j => bI (lq j))))] s.heap := hP
      have hD : va_D A [(h0, .inr (0, [.ref a1, .ref a2, .ref a3, .ref a4, .ref a5, .int 1, .int (bI mk), .int (nI lc), .int (nI cu), .int (nI cs)])), (a1, .inl (k1, 384, .inl fw)), (a2, .inl (k2, 384, .inl fd)), (a3, .inl (k3, 384, .inl fb)), (a4, .inl (k4, 24, .inl (fun j => bI (dz j)))), (a5, .inl (k5, 24, .inl (fun j => bI (lq j))))] := hD
      refine lv_aload_n hx hb dX0_read_0 rfl (lv_at hl 0 rfl) ?_
      refine va_get (ci := 0) (v := .int 1) (C := RX0) (T := TX0) (N := 10) hx hb hts (by decide +kernel) hown hK hP 0 rfl rfl 5 (by decide) (hts (.fieldLink RX0 26 "CommitLog" "powered" "Z") (by decide +kernel)) (fun _ h9 => h9) rfl dX0_read_1 ?_
      refine lv_if_eq (tgt := 21) hx hb dX0_read_4 (by decide) (fun c_1 => ?_) (fun c_1 => ?_)
      · -- T of pc 4
        exact absurd c_1 (by decide)
      · -- F of pc 4
        refine lv_iload_n hx hb dX0_read_7 rfl (lv_at hl 1 rfl) ?_
        refine ct_Si (As := [.int b]) (rest := []) (wr := [(h0, .inr (0, [.ref a1, .ref a2, .ref a3, .ref a4, .ref a5, .int 1, .int (bI mk), .int (nI lc), .int (nI cu), .int (nI cs)])), (a1, .inl (k1, 384, .inl fw)), (a2, .inl (k2, 384, .inl fd)), (a3, .inl (k3, 384, .inl fb)), (a4, .inl (k4, 24, .inl (fun j => bI (dz j)))), (a5, .inl (k5, 24, .inl (fun j => bI (lq j))))]) (wn := [(h0, .inr (0, [.ref a1, .ref a2, .ref a3, .ref a4, .ref a5, .int 1, .int (bI mk), .int (nI lc), .int (nI cu), .int (nI cs)])), (a1, .inl (k1, 384, .inl fw)), (a2, .inl (k2, 384, .inl fd)), (a3, .inl (k3, 384, .inl fb)), (a4, .inl (k4, 24, .inl (fun j => bI (dz j)))), (a5, .inl (k5, 24, .inl (fun j => bI (lq j))))]) ⟨hx, hb, hml, hown, hts⟩ (c0_isBlock l D b) (va_cwS 1 hts gX0_read_X0_isBlock rfl rfl rfl (by decide +kernel) ⟨Nat.le_of_ble_eq_true rfl, Nat.le_of_ble_eq_true rfl⟩) hK hP hD hS hA [] [0, 1, 2, 3, 4, 5] [] [0, 1, 2, 3, 4, 5] rfl rfl (by decide) rfl (by decide) (by decide) rfl (by decide) rfl hl.1 rfl (Nat.le_of_ble_eq_true rfl) dX0_read_8 ⟨Nat.zero_le _, Nat.zero_le _⟩ (fun H locs hP hD hS => ?_)
        refine tp_as (z := 0) (by rw [e1]; rfl) ?_
        refine lv_if_eq (tgt := 21) hx hb dX0_read_11 (by decide) (fun c_2 => ?_) (fun c_2 => ?_)
        · -- T of pc 11
          refine lv_iconst (v := (-1)) hx hb dX0_read_21 (by decide) ?_
          exact hret _ _ _ _ _ hP hD hS rfl dX0_read_22
        · -- F of pc 11
          exact absurd (by decide) c_2
    · rcases ix_cases 16 (by decide) q with ⟨e2, -⟩ | ⟨j, hj, rfl, e2⟩
      · simp only [xrd, e1, e2]
        refine ct_i.of (cc := cX0_read) (maxL := 3) (ty := .int) (by decide) rfl (Nat.le_of_ble_eq_true rfl) rfl ?_
        intro p e s m args below meth c ls A Q hx hb hml hts hown hK hP hD hA hS hl hret
        have hown : s.vm.findClass RX0 = some m.cls := hown
        have hl : lv_has ls 3 [(0, .ref h0), (1, .int (nI i)), (2, .int q)] := hl
        have hP : va_P D vwCl [(h0, .inr (0, [.ref a1, .ref a2, .ref a3, .ref a4, .ref a5, .int 1, .int (bI mk), .int (nI lc), .int (nI cu), .int (nI cs)])), (a1, .inl (k1, 384, .inl fw)), (a2, .inl (k2, 384, .inl fd)), (a3, .inl (k3, 384, .inl fb)), (a4, .inl (k4, 24, .inl (fun j => bI (dz j)))), (a5, .inl (k5, 24, .inl (fun j => bI (lq j))))] s.heap := hP
        have hD : va_D A [(h0, .inr (0, [.ref a1, .ref a2, .ref a3, .ref a4, .ref a5, .int 1, .int (bI mk), .int (nI lc), .int (nI cu), .int (nI cs)])), (a1, .inl (k1, 384, .inl fw)), (a2, .inl (k2, 384, .inl fd)), (a3, .inl (k3, 384, .inl fb)), (a4, .inl (k4, 24, .inl (fun j => bI (dz j)))), (a5, .inl (k5, 24, .inl (fun j => bI (lq j))))] := hD
        refine lv_aload_n hx hb dX0_read_0 rfl (lv_at hl 0 rfl) ?_
        refine va_get (ci := 0) (v := .int 1) (C := RX0) (T := TX0) (N := 10) hx hb hts (by decide +kernel) hown hK hP 0 rfl rfl 5 (by decide) (hts (.fieldLink RX0 26 "CommitLog" "powered" "Z") (by decide +kernel)) (fun _ h9 => h9) rfl dX0_read_1 ?_
        refine lv_if_eq (tgt := 21) hx hb dX0_read_4 (by decide) (fun c_1 => ?_) (fun c_1 => ?_)
        · -- T of pc 4
          exact absurd c_1 (by decide)
        · -- F of pc 4
          refine lv_iload_n hx hb dX0_read_7 rfl (lv_at hl 1 rfl) ?_
          refine ct_Si (As := [.int (nI i)]) (rest := []) (wr := [(h0, .inr (0, [.ref a1, .ref a2, .ref a3, .ref a4, .ref a5, .int 1, .int (bI mk), .int (nI lc), .int (nI cu), .int (nI cs)])), (a1, .inl (k1, 384, .inl fw)), (a2, .inl (k2, 384, .inl fd)), (a3, .inl (k3, 384, .inl fb)), (a4, .inl (k4, 24, .inl (fun j => bI (dz j)))), (a5, .inl (k5, 24, .inl (fun j => bI (lq j))))]) (wn := [(h0, .inr (0, [.ref a1, .ref a2, .ref a3, .ref a4, .ref a5, .int 1, .int (bI mk), .int (nI lc), .int (nI cu), .int (nI cs)])), (a1, .inl (k1, 384, .inl fw)), (a2, .inl (k2, 384, .inl fd)), (a3, .inl (k3, 384, .inl fb)), (a4, .inl (k4, 24, .inl (fun j => bI (dz j)))), (a5, .inl (k5, 24, .inl (fun j => bI (lq j))))]) ⟨hx, hb, hml, hown, hts⟩ (c0_isBlock l D (nI i)) (va_cwS 1 hts gX0_read_X0_isBlock rfl rfl rfl (by decide +kernel) ⟨Nat.le_of_ble_eq_true rfl, Nat.le_of_ble_eq_true rfl⟩) hK hP hD hS hA [] [0, 1, 2, 3, 4, 5] [] [0, 1, 2, 3, 4, 5] rfl rfl (by decide) rfl (by decide) (by decide) rfl (by decide) rfl hl.1 rfl (Nat.le_of_ble_eq_true rfl) dX0_read_8 ⟨Nat.zero_le _, Nat.zero_le _⟩ (fun H locs hP hD hS => ?_)
          refine tp_as (z := 1) (by rw [e1]; rfl) ?_
          refine lv_if_eq (tgt := 21) hx hb dX0_read_11 (by decide) (fun c_2 => ?_) (fun c_2 => ?_)
          · -- T of pc 11
            exact absurd c_2 (by decide)
          · -- F of pc 11
            refine lv_iload_n hx hb dX0_read_14 rfl (lv_at hl 2 rfl) ?_
            refine ct_Si (As := [.int q]) (rest := []) (wr := [(h0, .inr (0, [.ref a1, .ref a2, .ref a3, .ref a4, .ref a5, .int 1, .int (bI mk), .int (nI lc), .int (nI cu), .int (nI cs)])), (a1, .inl (k1, 384, .inl fw)), (a2, .inl (k2, 384, .inl fd)), (a3, .inl (k3, 384, .inl fb)), (a4, .inl (k4, 24, .inl (fun j => bI (dz j)))), (a5, .inl (k5, 24, .inl (fun j => bI (lq j))))]) (wn := [(h0, .inr (0, [.ref a1, .ref a2, .ref a3, .ref a4, .ref a5, .int 1, .int (bI mk), .int (nI lc), .int (nI cu), .int (nI cs)])), (a1, .inl (k1, 384, .inl fw)), (a2, .inl (k2, 384, .inl fd)), (a3, .inl (k3, 384, .inl fb)), (a4, .inl (k4, 24, .inl (fun j => bI (dz j)))), (a5, .inl (k5, 24, .inl (fun j => bI (lq j))))]) ⟨hx, hb, hml, hown, hts⟩ (c0_isPlace l D q) (va_cwS 1 hts gX0_read_X0_isPlace rfl rfl rfl (by decide +kernel) ⟨Nat.le_of_ble_eq_true rfl, Nat.le_of_ble_eq_true rfl⟩) hK hP hD hS hA [] [0, 1, 2, 3, 4, 5] [] [0, 1, 2, 3, 4, 5] rfl rfl (by decide) rfl (by decide) (by decide) rfl (by decide) rfl hl.1 rfl (Nat.le_of_ble_eq_true rfl) dX0_read_15 ⟨Nat.zero_le _, Nat.zero_le _⟩ (fun H locs hP hD hS => ?_)
            refine tp_as (z := 0) (by rw [e2]; rfl) ?_
            refine lv_if_ne (tgt := 23) hx hb dX0_read_18 (by decide) (fun c_3 => ?_) (fun c_3 => ?_)
            · -- T of pc 18
              exact absurd (by decide) c_3
            · -- F of pc 18
              refine lv_iconst (v := (-1)) hx hb dX0_read_21 (by decide) ?_
              exact hret _ _ _ _ _ hP hD hS rfl dX0_read_22
      · simp only [xrd, e1, e2]
        refine ct_i.of (cc := cX0_read) (maxL := 3) (ty := .int) (by decide) rfl (Nat.le_of_ble_eq_true rfl) rfl ?_
        intro p e s m args below meth c ls A Q hx hb hml hts hown hK hP hD hA hS hl hret
        have hown : s.vm.findClass RX0 = some m.cls := hown
        have hl : lv_has ls 3 [(0, .ref h0), (1, .int (nI i)), (2, .int (nI j))] := hl
        have hP : va_P D vwCl [(h0, .inr (0, [.ref a1, .ref a2, .ref a3, .ref a4, .ref a5, .int 1, .int (bI mk), .int (nI lc), .int (nI cu), .int (nI cs)])), (a1, .inl (k1, 384, .inl fw)), (a2, .inl (k2, 384, .inl fd)), (a3, .inl (k3, 384, .inl fb)), (a4, .inl (k4, 24, .inl (fun j => bI (dz j)))), (a5, .inl (k5, 24, .inl (fun j => bI (lq j))))] s.heap := hP
        have hD : va_D A [(h0, .inr (0, [.ref a1, .ref a2, .ref a3, .ref a4, .ref a5, .int 1, .int (bI mk), .int (nI lc), .int (nI cu), .int (nI cs)])), (a1, .inl (k1, 384, .inl fw)), (a2, .inl (k2, 384, .inl fd)), (a3, .inl (k3, 384, .inl fb)), (a4, .inl (k4, 24, .inl (fun j => bI (dz j)))), (a5, .inl (k5, 24, .inl (fun j => bI (lq j))))] := hD
        refine lv_aload_n hx hb dX0_read_0 rfl (lv_at hl 0 rfl) ?_
        refine va_get (ci := 0) (v := .int 1) (C := RX0) (T := TX0) (N := 10) hx hb hts (by decide +kernel) hown hK hP 0 rfl rfl 5 (by decide) (hts (.fieldLink RX0 26 "CommitLog" "powered" "Z") (by decide +kernel)) (fun _ h9 => h9) rfl dX0_read_1 ?_
        refine lv_if_eq (tgt := 21) hx hb dX0_read_4 (by decide) (fun c_1 => ?_) (fun c_1 => ?_)
        · -- T of pc 4
          exact absurd c_1 (by decide)
        · -- F of pc 4
          refine lv_iload_n hx hb dX0_read_7 rfl (lv_at hl 1 rfl) ?_
          refine ct_Si (As := [.int (nI i)]) (rest := []) (wr := [(h0, .inr (0, [.ref a1, .ref a2, .ref a3, .ref a4, .ref a5, .int 1, .int (bI mk), .int (nI lc), .int (nI cu), .int (nI cs)])), (a1, .inl (k1, 384, .inl fw)), (a2, .inl (k2, 384, .inl fd)), (a3, .inl (k3, 384, .inl fb)), (a4, .inl (k4, 24, .inl (fun j => bI (dz j)))), (a5, .inl (k5, 24, .inl (fun j => bI (lq j))))]) (wn := [(h0, .inr (0, [.ref a1, .ref a2, .ref a3, .ref a4, .ref a5, .int 1, .int (bI mk), .int (nI lc), .int (nI cu), .int (nI cs)])), (a1, .inl (k1, 384, .inl fw)), (a2, .inl (k2, 384, .inl fd)), (a3, .inl (k3, 384, .inl fb)), (a4, .inl (k4, 24, .inl (fun j => bI (dz j)))), (a5, .inl (k5, 24, .inl (fun j => bI (lq j))))]) ⟨hx, hb, hml, hown, hts⟩ (c0_isBlock l D (nI i)) (va_cwS 1 hts gX0_read_X0_isBlock rfl rfl rfl (by decide +kernel) ⟨Nat.le_of_ble_eq_true rfl, Nat.le_of_ble_eq_true rfl⟩) hK hP hD hS hA [] [0, 1, 2, 3, 4, 5] [] [0, 1, 2, 3, 4, 5] rfl rfl (by decide) rfl (by decide) (by decide) rfl (by decide) rfl hl.1 rfl (Nat.le_of_ble_eq_true rfl) dX0_read_8 ⟨Nat.zero_le _, Nat.zero_le _⟩ (fun H locs hP hD hS => ?_)
          refine tp_as (z := 1) (by rw [e1]; rfl) ?_
          refine lv_if_eq (tgt := 21) hx hb dX0_read_11 (by decide) (fun c_2 => ?_) (fun c_2 => ?_)
          · -- T of pc 11
            exact absurd c_2 (by decide)
          · -- F of pc 11
            refine lv_iload_n hx hb dX0_read_14 rfl (lv_at hl 2 rfl) ?_
            refine ct_Si (As := [.int (nI j)]) (rest := []) (wr := [(h0, .inr (0, [.ref a1, .ref a2, .ref a3, .ref a4, .ref a5, .int 1, .int (bI mk), .int (nI lc), .int (nI cu), .int (nI cs)])), (a1, .inl (k1, 384, .inl fw)), (a2, .inl (k2, 384, .inl fd)), (a3, .inl (k3, 384, .inl fb)), (a4, .inl (k4, 24, .inl (fun j => bI (dz j)))), (a5, .inl (k5, 24, .inl (fun j => bI (lq j))))]) (wn := [(h0, .inr (0, [.ref a1, .ref a2, .ref a3, .ref a4, .ref a5, .int 1, .int (bI mk), .int (nI lc), .int (nI cu), .int (nI cs)])), (a1, .inl (k1, 384, .inl fw)), (a2, .inl (k2, 384, .inl fd)), (a3, .inl (k3, 384, .inl fb)), (a4, .inl (k4, 24, .inl (fun j => bI (dz j)))), (a5, .inl (k5, 24, .inl (fun j => bI (lq j))))]) ⟨hx, hb, hml, hown, hts⟩ (c0_isPlace l D (nI j)) (va_cwS 1 hts gX0_read_X0_isPlace rfl rfl rfl (by decide +kernel) ⟨Nat.le_of_ble_eq_true rfl, Nat.le_of_ble_eq_true rfl⟩) hK hP hD hS hA [] [0, 1, 2, 3, 4, 5] [] [0, 1, 2, 3, 4, 5] rfl rfl (by decide) rfl (by decide) (by decide) rfl (by decide) rfl hl.1 rfl (Nat.le_of_ble_eq_true rfl) dX0_read_15 ⟨Nat.zero_le _, Nat.zero_le _⟩ (fun H locs hP hD hS => ?_)
            refine tp_as (z := 1) (by rw [e2]; rfl) ?_
            refine lv_if_ne (tgt := 23) hx hb dX0_read_18 (by decide) (fun c_3 => ?_) (fun c_3 => ?_)
            · -- T of pc 18
              refine lv_aload_n hx hb dX0_read_23 rfl (lv_at hl 0 rfl) ?_
              refine va_get (ci := 0) (v := .ref a1) (C := RX0) (T := TX0) (N := 10) hx hb hts (by decide +kernel) hown hK hP 0 rfl rfl 0 (by decide) (hts (.fieldLink RX0 9 "CommitLog" "work" "[I") (by decide +kernel)) (fun _ h9 => h9) rfl dX0_read_24 ?_
              refine lv_iload_n hx hb dX0_read_27 rfl (lv_at hl 1 rfl) ?_
              refine lv_bipush (v := 16) hx hb dX0_read_28 (by decide) ?_
              refine lv_imul hx hb dX0_read_30 ?_
              refine tp_as (z := nI (i * 16)) (pk_mul i 16) ?_
              refine lv_iload_n hx hb dX0_read_31 rfl (lv_at hl 2 rfl) ?_
              refine lv_iadd hx hb dX0_read_32 ?_
              refine tp_as (z := nI (i * 16 + j)) (nI_add _ _) ?_
              refine va_iald hx hb hK hP 1 0 rfl rfl (vp_in_nI (by omega) (by decide)) dX0_read_33 ?_
              refine tp_as (z := fw (i * 16 + j)) (by show fw (nI (i * 16 + j)).toNatClampNeg = _; rw [cl_nI (by omega)]) ?_
              exact hret _ _ _ _ _ hP hD hS rfl dX0_read_34
            · -- F of pc 18
              exact absurd c_3 (by decide)
set_option maxHeartbeats 4000000 in
set_option maxRecDepth 100000 in
theorem c0_disk (l : Launch) (D : va_G) (h0 a1 a2 a3 a4 a5 : Nat) (k1 k2 k3 k4 k5 : ClassId) (fw fd fb : Nat → Int32) (lq dz : Nat → Bool) (pw mk : Bool) (lc cu cs : Nat) (b q : Int32) : ct_i l yX0_disk wsX0_disk ({ frames := 1, cells := 0, slots := 0, locals := 20 }) D vwCl (XT k1 k2 k3 k4 k5) [.ref h0, .int b, .int q] (XW h0 a1 a2 a3 a4 a5 k1 k2 k3 k4 k5 fw fd fb lq dz pw mk lc cu cs) (XW h0 a1 a2 a3 a4 a5 k1 k2 k3 k4 k5 fw fd fb lq dz pw mk lc cu cs) (xrd true fd b q) := by
  rcases ix_cases 24 (by decide) b with ⟨e1, -⟩ | ⟨i, hi, rfl, e1⟩
  · simp only [xrd, e1]
    refine ct_i.of (cc := cX0_disk) (maxL := 3) (ty := .int) (by decide) rfl (Nat.le_of_ble_eq_true rfl) rfl ?_
    intro p e s m args below meth c ls A Q hx hb hml hts hown hK hP hD hA hS hl hret
    have hown : s.vm.findClass RX0 = some m.cls := hown
    have hl : lv_has ls 3 [(0, .ref h0), (1, .int b), (2, .int q)] := hl
    have hP : va_P D vwCl [(h0, .inr (0, [.ref a1, .ref a2, .ref a3, .ref a4, .ref a5, .int (bI pw), .int (bI mk), .int (nI lc), .int (nI cu), .int (nI cs)])), (a1, .inl (k1, 384, .inl fw)), (a2, .inl (k2, 384, .inl fd)), (a3, .inl (k3, 384, .inl fb)), (a4, .inl (k4, 24, .inl (fun j => bI (dz j)))), (a5, .inl (k5, 24, .inl (fun j => bI (lq j))))] s.heap := hP
    have hD : va_D A [(h0, .inr (0, [.ref a1, .ref a2, .ref a3, .ref a4, .ref a5, .int (bI pw), .int (bI mk), .int (nI lc), .int (nI cu), .int (nI cs)])), (a1, .inl (k1, 384, .inl fw)), (a2, .inl (k2, 384, .inl fd)), (a3, .inl (k3, 384, .inl fb)), (a4, .inl (k4, 24, .inl (fun j => bI (dz j)))), (a5, .inl (k5, 24, .inl (fun j => bI (lq j))))] := hD
    refine lv_iload_n hx hb dX0_disk_0 rfl (lv_at hl 1 rfl) ?_
    refine ct_Si (As := [.int b]) (rest := []) (wr := [(h0, .inr (0, [.ref a1, .ref a2, .ref a3, .ref a4, .ref a5, .int (bI pw), .int (bI mk), .int (nI lc), .int (nI cu), .int (nI cs)])), (a1, .inl (k1, 384, .inl fw)), (a2, .inl (k2, 384, .inl fd)), (a3, .inl (k3, 384, .inl fb)), (a4, .inl (k4, 24, .inl (fun j => bI (dz j)))), (a5, .inl (k5, 24, .inl (fun j => bI (lq j))))]) (wn := [(h0, .inr (0, [.ref a1, .ref a2, .ref a3, .ref a4, .ref a5, .int (bI pw), .int (bI mk), .int (nI lc), .int (nI cu), .int (nI cs)])), (a1, .inl (k1, 384, .inl fw)), (a2, .inl (k2, 384, .inl fd)), (a3, .inl (k3, 384, .inl fb)), (a4, .inl (k4, 24, .inl (fun j => bI (dz j)))), (a5, .inl (k5, 24, .inl (fun j => bI (lq j))))]) ⟨hx, hb, hml, hown, hts⟩ (c0_isBlock l D b) (va_cwS 1 hts gX0_disk_X0_isBlock rfl rfl rfl (by decide +kernel) ⟨Nat.le_of_ble_eq_true rfl, Nat.le_of_ble_eq_true rfl⟩) hK hP hD hS hA [] [0, 1, 2, 3, 4, 5] [] [0, 1, 2, 3, 4, 5] rfl rfl (by decide) rfl (by decide) (by decide) rfl (by decide) rfl hl.1 rfl (Nat.le_of_ble_eq_true rfl) dX0_disk_1 ⟨Nat.zero_le _, Nat.zero_le _⟩ (fun H locs hP hD hS => ?_)
    refine tp_as (z := 0) (by rw [e1]; rfl) ?_
    refine lv_if_eq (tgt := 14) hx hb dX0_disk_4 (by decide) (fun c_1 => ?_) (fun c_1 => ?_)
    · -- T of pc 4
      refine lv_iconst (v := (-1)) hx hb dX0_disk_14 (by decide) ?_
      exact hret _ _ _ _ _ hP hD hS rfl dX0_disk_15
    · -- F of pc 4
      exact absurd (by decide) c_1
  · rcases ix_cases 16 (by decide) q with ⟨e2, -⟩ | ⟨j, hj, rfl, e2⟩
    · simp only [xrd, e1, e2]
      refine ct_i.of (cc := cX0_disk) (maxL := 3) (ty := .int) (by decide) rfl (Nat.le_of_ble_eq_true rfl) rfl ?_
      intro p e s m args below meth c ls A Q hx hb hml hts hown hK hP hD hA hS hl hret
      have hown : s.vm.findClass RX0 = some m.cls := hown
      have hl : lv_has ls 3 [(0, .ref h0), (1, .int (nI i)), (2, .int q)] := hl
      have hP : va_P D vwCl [(h0, .inr (0, [.ref a1, .ref a2, .ref a3, .ref a4, .ref a5, .int (bI pw), .int (bI mk), .int (nI lc), .int (nI cu), .int (nI cs)])), (a1, .inl (k1, 384, .inl fw)), (a2, .inl (k2, 384, .inl fd)), (a3, .inl (k3, 384, .inl fb)), (a4, .inl (k4, 24, .inl (fun j => bI (dz j)))), (a5, .inl (k5, 24, .inl (fun j => bI (lq j))))] s.heap := hP
      have hD : va_D A [(h0, .inr (0, [.ref a1, .ref a2, .ref a3, .ref a4, .ref a5, .int (bI pw), .int (bI mk), .int (nI lc), .int (nI cu), .int (nI cs)])), (a1, .inl (k1, 384, .inl fw)), (a2, .inl (k2, 384, .inl fd)), (a3, .inl (k3, 384, .inl fb)), (a4, .inl (k4, 24, .inl (fun j => bI (dz j)))), (a5, .inl (k5, 24, .inl (fun j => bI (lq j))))] := hD
      refine lv_iload_n hx hb dX0_disk_0 rfl (lv_at hl 1 rfl) ?_
      refine ct_Si (As := [.int (nI i)]) (rest := []) (wr := [(h0, .inr (0, [.ref a1, .ref a2, .ref a3, .ref a4, .ref a5, .int (bI pw), .int (bI mk), .int (nI lc), .int (nI cu), .int (nI cs)])), (a1, .inl (k1, 384, .inl fw)), (a2, .inl (k2, 384, .inl fd)), (a3, .inl (k3, 384, .inl fb)), (a4, .inl (k4, 24, .inl (fun j => bI (dz j)))), (a5, .inl (k5, 24, .inl (fun j => bI (lq j))))]) (wn := [(h0, .inr (0, [.ref a1, .ref a2, .ref a3, .ref a4, .ref a5, .int (bI pw), .int (bI mk), .int (nI lc), .int (nI cu), .int (nI cs)])), (a1, .inl (k1, 384, .inl fw)), (a2, .inl (k2, 384, .inl fd)), (a3, .inl (k3, 384, .inl fb)), (a4, .inl (k4, 24, .inl (fun j => bI (dz j)))), (a5, .inl (k5, 24, .inl (fun j => bI (lq j))))]) ⟨hx, hb, hml, hown, hts⟩ (c0_isBlock l D (nI i)) (va_cwS 1 hts gX0_disk_X0_isBlock rfl rfl rfl (by decide +kernel) ⟨Nat.le_of_ble_eq_true rfl, Nat.le_of_ble_eq_true rfl⟩) hK hP hD hS hA [] [0, 1, 2, 3, 4, 5] [] [0, 1, 2, 3, 4, 5] rfl rfl (by decide) rfl (by decide) (by decide) rfl (by decide) rfl hl.1 rfl (Nat.le_of_ble_eq_true rfl) dX0_disk_1 ⟨Nat.zero_le _, Nat.zero_le _⟩ (fun H locs hP hD hS => ?_)
      refine tp_as (z := 1) (by rw [e1]; rfl) ?_
      refine lv_if_eq (tgt := 14) hx hb dX0_disk_4 (by decide) (fun c_1 => ?_) (fun c_1 => ?_)
      · -- T of pc 4
        exact absurd c_1 (by decide)
      · -- F of pc 4
        refine lv_iload_n hx hb dX0_disk_7 rfl (lv_at hl 2 rfl) ?_
        refine ct_Si (As := [.int q]) (rest := []) (wr := [(h0, .inr (0, [.ref a1, .ref a2, .ref a3, .ref a4, .ref a5, .int (bI pw), .int (bI mk), .int (nI lc), .int (nI cu), .int (nI cs)])), (a1, .inl (k1, 384, .inl fw)), (a2, .inl (k2, 384, .inl fd)), (a3, .inl (k3, 384, .inl fb)), (a4, .inl (k4, 24, .inl (fun j => bI (dz j)))), (a5, .inl (k5, 24, .inl (fun j => bI (lq j))))]) (wn := [(h0, .inr (0, [.ref a1, .ref a2, .ref a3, .ref a4, .ref a5, .int (bI pw), .int (bI mk), .int (nI lc), .int (nI cu), .int (nI cs)])), (a1, .inl (k1, 384, .inl fw)), (a2, .inl (k2, 384, .inl fd)), (a3, .inl (k3, 384, .inl fb)), (a4, .inl (k4, 24, .inl (fun j => bI (dz j)))), (a5, .inl (k5, 24, .inl (fun j => bI (lq j))))]) ⟨hx, hb, hml, hown, hts⟩ (c0_isPlace l D q) (va_cwS 1 hts gX0_disk_X0_isPlace rfl rfl rfl (by decide +kernel) ⟨Nat.le_of_ble_eq_true rfl, Nat.le_of_ble_eq_true rfl⟩) hK hP hD hS hA [] [0, 1, 2, 3, 4, 5] [] [0, 1, 2, 3, 4, 5] rfl rfl (by decide) rfl (by decide) (by decide) rfl (by decide) rfl hl.1 rfl (Nat.le_of_ble_eq_true rfl) dX0_disk_8 ⟨Nat.zero_le _, Nat.zero_le _⟩ (fun H locs hP hD hS => ?_)
        refine tp_as (z := 0) (by rw [e2]; rfl) ?_
        refine lv_if_ne (tgt := 16) hx hb dX0_disk_11 (by decide) (fun c_2 => ?_) (fun c_2 => ?_)
        · -- T of pc 11
          exact absurd (by decide) c_2
        · -- F of pc 11
          refine lv_iconst (v := (-1)) hx hb dX0_disk_14 (by decide) ?_
          exact hret _ _ _ _ _ hP hD hS rfl dX0_disk_15
    · simp only [xrd, e1, e2]
      refine ct_i.of (cc := cX0_disk) (maxL := 3) (ty := .int) (by decide) rfl (Nat.le_of_ble_eq_true rfl) rfl ?_
      intro p e s m args below meth c ls A Q hx hb hml hts hown hK hP hD hA hS hl hret
      have hown : s.vm.findClass RX0 = some m.cls := hown
      have hl : lv_has ls 3 [(0, .ref h0), (1, .int (nI i)), (2, .int (nI j))] := hl
      have hP : va_P D vwCl [(h0, .inr (0, [.ref a1, .ref a2, .ref a3, .ref a4, .ref a5, .int (bI pw), .int (bI mk), .int (nI lc), .int (nI cu), .int (nI cs)])), (a1, .inl (k1, 384, .inl fw)), (a2, .inl (k2, 384, .inl fd)), (a3, .inl (k3, 384, .inl fb)), (a4, .inl (k4, 24, .inl (fun j => bI (dz j)))), (a5, .inl (k5, 24, .inl (fun j => bI (lq j))))] s.heap := hP
      have hD : va_D A [(h0, .inr (0, [.ref a1, .ref a2, .ref a3, .ref a4, .ref a5, .int (bI pw), .int (bI mk), .int (nI lc), .int (nI cu), .int (nI cs)])), (a1, .inl (k1, 384, .inl fw)), (a2, .inl (k2, 384, .inl fd)), (a3, .inl (k3, 384, .inl fb)), (a4, .inl (k4, 24, .inl (fun j => bI (dz j)))), (a5, .inl (k5, 24, .inl (fun j => bI (lq j))))] := hD
      refine lv_iload_n hx hb dX0_disk_0 rfl (lv_at hl 1 rfl) ?_
      refine ct_Si (As := [.int (nI i)]) (rest := []) (wr := [(h0, .inr (0, [.ref a1, .ref a2, .ref a3, .ref a4, .ref a5, .int (bI pw), .int (bI mk), .int (nI lc), .int (nI cu), .int (nI cs)])), (a1, .inl (k1, 384, .inl fw)), (a2, .inl (k2, 384, .inl fd)), (a3, .inl (k3, 384, .inl fb)), (a4, .inl (k4, 24, .inl (fun j => bI (dz j)))), (a5, .inl (k5, 24, .inl (fun j => bI (lq j))))]) (wn := [(h0, .inr (0, [.ref a1, .ref a2, .ref a3, .ref a4, .ref a5, .int (bI pw), .int (bI mk), .int (nI lc), .int (nI cu), .int (nI cs)])), (a1, .inl (k1, 384, .inl fw)), (a2, .inl (k2, 384, .inl fd)), (a3, .inl (k3, 384, .inl fb)), (a4, .inl (k4, 24, .inl (fun j => bI (dz j)))), (a5, .inl (k5, 24, .inl (fun j => bI (lq j))))]) ⟨hx, hb, hml, hown, hts⟩ (c0_isBlock l D (nI i)) (va_cwS 1 hts gX0_disk_X0_isBlock rfl rfl rfl (by decide +kernel) ⟨Nat.le_of_ble_eq_true rfl, Nat.le_of_ble_eq_true rfl⟩) hK hP hD hS hA [] [0, 1, 2, 3, 4, 5] [] [0, 1, 2, 3, 4, 5] rfl rfl (by decide) rfl (by decide) (by decide) rfl (by decide) rfl hl.1 rfl (Nat.le_of_ble_eq_true rfl) dX0_disk_1 ⟨Nat.zero_le _, Nat.zero_le _⟩ (fun H locs hP hD hS => ?_)
      refine tp_as (z := 1) (by rw [e1]; rfl) ?_
      refine lv_if_eq (tgt := 14) hx hb dX0_disk_4 (by decide) (fun c_1 => ?_) (fun c_1 => ?_)
      · -- T of pc 4
        exact absurd c_1 (by decide)
      · -- F of pc 4
        refine lv_iload_n hx hb dX0_disk_7 rfl (lv_at hl 2 rfl) ?_
        refine ct_Si (As := [.int (nI j)]) (rest := []) (wr := [(h0, .inr (0, [.ref a1, .ref a2, .ref a3, .ref a4, .ref a5, .int (bI pw), .int (bI mk), .int (nI lc), .int (nI cu), .int (nI cs)])), (a1, .inl (k1, 384, .inl fw)), (a2, .inl (k2, 384, .inl fd)), (a3, .inl (k3, 384, .inl fb)), (a4, .inl (k4, 24, .inl (fun j => bI (dz j)))), (a5, .inl (k5, 24, .inl (fun j => bI (lq j))))]) (wn := [(h0, .inr (0, [.ref a1, .ref a2, .ref a3, .ref a4, .ref a5, .int (bI pw), .int (bI mk), .int (nI lc), .int (nI cu), .int (nI cs)])), (a1, .inl (k1, 384, .inl fw)), (a2, .inl (k2, 384, .inl fd)), (a3, .inl (k3, 384, .inl fb)), (a4, .inl (k4, 24, .inl (fun j => bI (dz j)))), (a5, .inl (k5, 24, .inl (fun j => bI (lq j))))]) ⟨hx, hb, hml, hown, hts⟩ (c0_isPlace l D (nI j)) (va_cwS 1 hts gX0_disk_X0_isPlace rfl rfl rfl (by decide +kernel) ⟨Nat.le_of_ble_eq_true rfl, Nat.le_of_ble_eq_true rfl⟩) hK hP hD hS hA [] [0, 1, 2, 3, 4, 5] [] [0, 1, 2, 3, 4, 5] rfl rfl (by decide) rfl (by decide) (by decide) rfl (by decide) rfl hl.1 rfl (Nat.le_of_ble_eq_true rfl) dX0_disk_8 ⟨Nat.zero_le _, Nat.zero_le _⟩ (fun H locs hP hD hS => ?_)
        refine tp_as (z := 1) (by rw [e2]; rfl) ?_
        refine lv_if_ne (tgt := 16) hx hb dX0_disk_11 (by decide) (fun c_2 => ?_) (fun c_2 => ?_)
        · -- T of pc 11
          refine lv_aload_n hx hb dX0_disk_16 rfl (lv_at hl 0 rfl) ?_
          refine va_get (ci := 0) (v := .ref a2) (C := RX0) (T := TX0) (N := 10) hx hb hts (by decide +kernel) hown hK hP 0 rfl rfl 1 (by decide) (hts (.fieldLink RX0 13 "CommitLog" "onDisk" "[I") (by decide +kernel)) (fun _ h9 => h9) rfl dX0_disk_17 ?_
          refine lv_iload_n hx hb dX0_disk_20 rfl (lv_at hl 1 rfl) ?_
          refine lv_bipush (v := 16) hx hb dX0_disk_21 (by decide) ?_
          refine lv_imul hx hb dX0_disk_23 ?_
          refine tp_as (z := nI (i * 16)) (pk_mul i 16) ?_
          refine lv_iload_n hx hb dX0_disk_24 rfl (lv_at hl 2 rfl) ?_
          refine lv_iadd hx hb dX0_disk_25 ?_
          refine tp_as (z := nI (i * 16 + j)) (nI_add _ _) ?_
          refine va_iald hx hb hK hP 2 1 rfl rfl (vp_in_nI (by omega) (by decide)) dX0_disk_26 ?_
          refine tp_as (z := fd (i * 16 + j)) (by show fd (nI (i * 16 + j)).toNatClampNeg = _; rw [cl_nI (by omega)]) ?_
          exact hret _ _ _ _ _ hP hD hS rfl dX0_disk_27
        · -- F of pc 11
          exact absurd c_2 (by decide)
set_option maxHeartbeats 4000000 in
set_option maxRecDepth 100000 in
theorem c0_dirty (l : Launch) (D : va_G) (h0 a1 a2 a3 a4 a5 : Nat) (k1 k2 k3 k4 k5 : ClassId) (fw fd fb : Nat → Int32) (lq dz : Nat → Bool) (pw mk : Bool) (lc cu cs : Nat) (b : Int32) : ct_i l yX0_dirty wsX0_dirty ({ frames := 1, cells := 0, slots := 0, locals := 20 }) D vwCl (XT k1 k2 k3 k4 k5) [.ref h0, .int b] (XW h0 a1 a2 a3 a4 a5 k1 k2 k3 k4 k5 fw fd fb lq dz pw mk lc cu cs) (XW h0 a1 a2 a3 a4 a5 k1 k2 k3 k4 k5 fw fd fb lq dz pw mk lc cu cs) (bI (xdt pw dz b)) := by
  cases pw with
  | false =>
    simp only [xdt]
    refine ct_i.of (cc := cX0_dirty) (maxL := 2) (ty := .boolean) (by decide) rfl (Nat.le_of_ble_eq_true rfl) (nb_bI _) ?_
    intro p e s m args below meth c ls A Q hx hb hml hts hown hK hP hD hA hS hl hret
    have hown : s.vm.findClass RX0 = some m.cls := hown
    have hl : lv_has ls 2 [(0, .ref h0), (1, .int b)] := hl
    have hP : va_P D vwCl [(h0, .inr (0, [.ref a1, .ref a2, .ref a3, .ref a4, .ref a5, .int 0, .int (bI mk), .int (nI lc), .int (nI cu), .int (nI cs)])), (a1, .inl (k1, 384, .inl fw)), (a2, .inl (k2, 384, .inl fd)), (a3, .inl (k3, 384, .inl fb)), (a4, .inl (k4, 24, .inl (fun j => bI (dz j)))), (a5, .inl (k5, 24, .inl (fun j => bI (lq j))))] s.heap := hP
    have hD : va_D A [(h0, .inr (0, [.ref a1, .ref a2, .ref a3, .ref a4, .ref a5, .int 0, .int (bI mk), .int (nI lc), .int (nI cu), .int (nI cs)])), (a1, .inl (k1, 384, .inl fw)), (a2, .inl (k2, 384, .inl fd)), (a3, .inl (k3, 384, .inl fb)), (a4, .inl (k4, 24, .inl (fun j => bI (dz j)))), (a5, .inl (k5, 24, .inl (fun j => bI (lq j))))] := hD
    refine lv_aload_n hx hb dX0_dirty_0 rfl (lv_at hl 0 rfl) ?_
    refine va_get (ci := 0) (v := .int 0) (C := RX0) (T := TX0) (N := 10) hx hb hts (by decide +kernel) hown hK hP 0 rfl rfl 5 (by decide) (hts (.fieldLink RX0 26 "CommitLog" "powered" "Z") (by decide +kernel)) (fun _ h9 => h9) rfl dX0_dirty_1 ?_
    refine lv_if_eq (tgt := 27) hx hb dX0_dirty_4 (by decide) (fun c_1 => ?_) (fun c_1 => ?_)
    · -- T of pc 4
      refine lv_iconst (v := 0) hx hb dX0_dirty_27 (by decide) ?_
      exact hret _ _ _ _ _ hP hD hS rfl dX0_dirty_28
    · -- F of pc 4
      exact absurd (by decide) c_1
  | true =>
    rcases ix_cases 24 (by decide) b with ⟨e1, -⟩ | ⟨i, hi, rfl, e1⟩
    · simp only [xdt, e1]
      refine ct_i.of (cc := cX0_dirty) (maxL := 2) (ty := .boolean) (by decide) rfl (Nat.le_of_ble_eq_true rfl) (nb_bI _) ?_
      intro p e s m args below meth c ls A Q hx hb hml hts hown hK hP hD hA hS hl hret
      have hown : s.vm.findClass RX0 = some m.cls := hown
      have hl : lv_has ls 2 [(0, .ref h0), (1, .int b)] := hl
      have hP : va_P D vwCl [(h0, .inr (0, [.ref a1, .ref a2, .ref a3, .ref a4, .ref a5, .int 1, .int (bI mk), .int (nI lc), .int (nI cu), .int (nI cs)])), (a1, .inl (k1, 384, .inl fw)), (a2, .inl (k2, 384, .inl fd)), (a3, .inl (k3, 384, .inl fb)), (a4, .inl (k4, 24, .inl (fun j => bI (dz j)))), (a5, .inl (k5, 24, .inl (fun j => bI (lq j))))] s.heap := hP
      have hD : va_D A [(h0, .inr (0, [.ref a1, .ref a2, .ref a3, .ref a4, .ref a5, .int 1, .int (bI mk), .int (nI lc), .int (nI cu), .int (nI cs)])), (a1, .inl (k1, 384, .inl fw)), (a2, .inl (k2, 384, .inl fd)), (a3, .inl (k3, 384, .inl fb)), (a4, .inl (k4, 24, .inl (fun j => bI (dz j)))), (a5, .inl (k5, 24, .inl (fun j => bI (lq j))))] := hD
      refine lv_aload_n hx hb dX0_dirty_0 rfl (lv_at hl 0 rfl) ?_
      refine va_get (ci := 0) (v := .int 1) (C := RX0) (T := TX0) (N := 10) hx hb hts (by decide +kernel) hown hK hP 0 rfl rfl 5 (by decide) (hts (.fieldLink RX0 26 "CommitLog" "powered" "Z") (by decide +kernel)) (fun _ h9 => h9) rfl dX0_dirty_1 ?_
      refine lv_if_eq (tgt := 27) hx hb dX0_dirty_4 (by decide) (fun c_1 => ?_) (fun c_1 => ?_)
      · -- T of pc 4
        exact absurd c_1 (by decide)
      · -- F of pc 4
        refine lv_iload_n hx hb dX0_dirty_7 rfl (lv_at hl 1 rfl) ?_
        refine ct_Si (As := [.int b]) (rest := []) (wr := [(h0, .inr (0, [.ref a1, .ref a2, .ref a3, .ref a4, .ref a5, .int 1, .int (bI mk), .int (nI lc), .int (nI cu), .int (nI cs)])), (a1, .inl (k1, 384, .inl fw)), (a2, .inl (k2, 384, .inl fd)), (a3, .inl (k3, 384, .inl fb)), (a4, .inl (k4, 24, .inl (fun j => bI (dz j)))), (a5, .inl (k5, 24, .inl (fun j => bI (lq j))))]) (wn := [(h0, .inr (0, [.ref a1, .ref a2, .ref a3, .ref a4, .ref a5, .int 1, .int (bI mk), .int (nI lc), .int (nI cu), .int (nI cs)])), (a1, .inl (k1, 384, .inl fw)), (a2, .inl (k2, 384, .inl fd)), (a3, .inl (k3, 384, .inl fb)), (a4, .inl (k4, 24, .inl (fun j => bI (dz j)))), (a5, .inl (k5, 24, .inl (fun j => bI (lq j))))]) ⟨hx, hb, hml, hown, hts⟩ (c0_isBlock l D b) (va_cwS 1 hts gX0_dirty_X0_isBlock rfl rfl rfl (by decide +kernel) ⟨Nat.le_of_ble_eq_true rfl, Nat.le_of_ble_eq_true rfl⟩) hK hP hD hS hA [] [0, 1, 2, 3, 4, 5] [] [0, 1, 2, 3, 4, 5] rfl rfl (by decide) rfl (by decide) (by decide) rfl (by decide) rfl hl.1 rfl (Nat.le_of_ble_eq_true rfl) dX0_dirty_8 ⟨Nat.zero_le _, Nat.zero_le _⟩ (fun H locs hP hD hS => ?_)
        refine tp_as (z := 0) (by rw [e1]; rfl) ?_
        refine lv_if_eq (tgt := 27) hx hb dX0_dirty_11 (by decide) (fun c_2 => ?_) (fun c_2 => ?_)
        · -- T of pc 11
          refine lv_iconst (v := 0) hx hb dX0_dirty_27 (by decide) ?_
          exact hret _ _ _ _ _ hP hD hS rfl dX0_dirty_28
        · -- F of pc 11
          exact absurd (by decide) c_2
    · simp only [xdt, e1]
      refine ct_i.of (cc := cX0_dirty) (maxL := 2) (ty := .boolean) (by decide) rfl (Nat.le_of_ble_eq_true rfl) (nb_bI _) ?_
      intro p e s m args below meth c ls A Q hx hb hml hts hown hK hP hD hA hS hl hret
      have hown : s.vm.findClass RX0 = some m.cls := hown
      have hl : lv_has ls 2 [(0, .ref h0), (1, .int (nI i))] := hl
      have hP : va_P D vwCl [(h0, .inr (0, [.ref a1, .ref a2, .ref a3, .ref a4, .ref a5, .int 1, .int (bI mk), .int (nI lc), .int (nI cu), .int (nI cs)])), (a1, .inl (k1, 384, .inl fw)), (a2, .inl (k2, 384, .inl fd)), (a3, .inl (k3, 384, .inl fb)), (a4, .inl (k4, 24, .inl (fun j => bI (dz j)))), (a5, .inl (k5, 24, .inl (fun j => bI (lq j))))] s.heap := hP
      have hD : va_D A [(h0, .inr (0, [.ref a1, .ref a2, .ref a3, .ref a4, .ref a5, .int 1, .int (bI mk), .int (nI lc), .int (nI cu), .int (nI cs)])), (a1, .inl (k1, 384, .inl fw)), (a2, .inl (k2, 384, .inl fd)), (a3, .inl (k3, 384, .inl fb)), (a4, .inl (k4, 24, .inl (fun j => bI (dz j)))), (a5, .inl (k5, 24, .inl (fun j => bI (lq j))))] := hD
      refine lv_aload_n hx hb dX0_dirty_0 rfl (lv_at hl 0 rfl) ?_
      refine va_get (ci := 0) (v := .int 1) (C := RX0) (T := TX0) (N := 10) hx hb hts (by decide +kernel) hown hK hP 0 rfl rfl 5 (by decide) (hts (.fieldLink RX0 26 "CommitLog" "powered" "Z") (by decide +kernel)) (fun _ h9 => h9) rfl dX0_dirty_1 ?_
      refine lv_if_eq (tgt := 27) hx hb dX0_dirty_4 (by decide) (fun c_1 => ?_) (fun c_1 => ?_)
      · -- T of pc 4
        exact absurd c_1 (by decide)
      · -- F of pc 4
        refine lv_iload_n hx hb dX0_dirty_7 rfl (lv_at hl 1 rfl) ?_
        refine ct_Si (As := [.int (nI i)]) (rest := []) (wr := [(h0, .inr (0, [.ref a1, .ref a2, .ref a3, .ref a4, .ref a5, .int 1, .int (bI mk), .int (nI lc), .int (nI cu), .int (nI cs)])), (a1, .inl (k1, 384, .inl fw)), (a2, .inl (k2, 384, .inl fd)), (a3, .inl (k3, 384, .inl fb)), (a4, .inl (k4, 24, .inl (fun j => bI (dz j)))), (a5, .inl (k5, 24, .inl (fun j => bI (lq j))))]) (wn := [(h0, .inr (0, [.ref a1, .ref a2, .ref a3, .ref a4, .ref a5, .int 1, .int (bI mk), .int (nI lc), .int (nI cu), .int (nI cs)])), (a1, .inl (k1, 384, .inl fw)), (a2, .inl (k2, 384, .inl fd)), (a3, .inl (k3, 384, .inl fb)), (a4, .inl (k4, 24, .inl (fun j => bI (dz j)))), (a5, .inl (k5, 24, .inl (fun j => bI (lq j))))]) ⟨hx, hb, hml, hown, hts⟩ (c0_isBlock l D (nI i)) (va_cwS 1 hts gX0_dirty_X0_isBlock rfl rfl rfl (by decide +kernel) ⟨Nat.le_of_ble_eq_true rfl, Nat.le_of_ble_eq_true rfl⟩) hK hP hD hS hA [] [0, 1, 2, 3, 4, 5] [] [0, 1, 2, 3, 4, 5] rfl rfl (by decide) rfl (by decide) (by decide) rfl (by decide) rfl hl.1 rfl (Nat.le_of_ble_eq_true rfl) dX0_dirty_8 ⟨Nat.zero_le _, Nat.zero_le _⟩ (fun H locs hP hD hS => ?_)
        refine tp_as (z := 1) (by rw [e1]; rfl) ?_
        refine lv_if_eq (tgt := 27) hx hb dX0_dirty_11 (by decide) (fun c_2 => ?_) (fun c_2 => ?_)
        · -- T of pc 11
          exact absurd c_2 (by decide)
        · -- F of pc 11
          refine lv_aload_n hx hb dX0_dirty_14 rfl (lv_at hl 0 rfl) ?_
          refine va_get (ci := 0) (v := .ref a4) (C := RX0) (T := TX0) (N := 10) hx hb hts (by decide +kernel) hown hK hP 0 rfl rfl 3 (by decide) (hts (.fieldLink RX0 19 "CommitLog" "written" "[Z") (by decide +kernel)) (fun _ h9 => h9) rfl dX0_dirty_15 ?_
          refine lv_iload_n hx hb dX0_dirty_18 rfl (lv_at hl 1 rfl) ?_
          refine va_zald hx hb hK hP 4 3 rfl rfl (vp_in_nI (by omega) (by decide)) dX0_dirty_19 ?_
          refine tp_as (z := bI (dz i)) (by show bI (dz (nI i).toNatClampNeg) = _; rw [cl_nI (by omega)]) ?_
          refine lv_if_eq (tgt := 27) hx hb dX0_dirty_20 (by decide) (fun c_3 => ?_) (fun c_3 => ?_)
          · -- T of pc 20
            refine lv_iconst (v := 0) hx hb dX0_dirty_27 (by decide) ?_
            exact hret _ _ _ _ _ hP hD hS (by first | rfl | exact dz_0 (by assumption) | exact dz_1 (by assumption)) dX0_dirty_28
          · -- F of pc 20
            refine lv_iconst (v := 1) hx hb dX0_dirty_23 (by decide) ?_
            refine lv_goto (tgt := 28) hx hb dX0_dirty_24 (by decide) ?_
            exact hret _ _ _ _ _ hP hD hS (by first | rfl | exact dz_0 (by assumption) | exact dz_1 (by assumption)) dX0_dirty_28
set_option maxHeartbeats 4000000 in
set_option maxRecDepth 100000 in
theorem c0_revert (l : Launch) (D : va_G) (h0 a1 a2 a3 a4 a5 : Nat) (k1 k2 k3 k4 k5 : ClassId) (fw fd fb : Nat → Int32) (lq dz : Nat → Bool) (pw mk : Bool) (lc cu cs : Nat) : ct_i l yX0_revert wsX0_revert ({ frames := 2, cells := 0, slots := 0, locals := 41 }) D vwCl (XT k1 k2 k3 k4 k5) [.ref h0] (XW h0 a1 a2 a3 a4 a5 k1 k2 k3 k4 k5 fw fd fb lq dz pw mk lc cu cs) (XW h0 a1 a2 a3 a4 a5 k1 k2 k3 k4 k5 (bif pw then va_cpy fd fw 0 0 384 else fw) fd fb lq (bif pw then clr dz 24 else dz) pw mk lc cu cs) (bI pw) := by
  cases pw with
  | false =>
    refine ct_i.of (cc := cX0_revert) (maxL := 1) (ty := .boolean) (by decide) rfl (Nat.le_of_ble_eq_true rfl) (nb_bI _) ?_
    intro p e s m args below meth c ls A Q hx hb hml hts hown hK hP hD hA hS hl hret
    have hown : s.vm.findClass RX0 = some m.cls := hown
    have hl : lv_has ls 1 [(0, .ref h0)] := hl
    have hP : va_P D vwCl [(h0, .inr (0, [.ref a1, .ref a2, .ref a3, .ref a4, .ref a5, .int 0, .int (bI mk), .int (nI lc), .int (nI cu), .int (nI cs)])), (a1, .inl (k1, 384, .inl fw)), (a2, .inl (k2, 384, .inl fd)), (a3, .inl (k3, 384, .inl fb)), (a4, .inl (k4, 24, .inl (fun j => bI (dz j)))), (a5, .inl (k5, 24, .inl (fun j => bI (lq j))))] s.heap := hP
    have hD : va_D A [(h0, .inr (0, [.ref a1, .ref a2, .ref a3, .ref a4, .ref a5, .int 0, .int (bI mk), .int (nI lc), .int (nI cu), .int (nI cs)])), (a1, .inl (k1, 384, .inl fw)), (a2, .inl (k2, 384, .inl fd)), (a3, .inl (k3, 384, .inl fb)), (a4, .inl (k4, 24, .inl (fun j => bI (dz j)))), (a5, .inl (k5, 24, .inl (fun j => bI (lq j))))] := hD
    refine lv_aload_n hx hb dX0_revert_0 rfl (lv_at hl 0 rfl) ?_
    refine va_get (ci := 0) (v := .int 0) (C := RX0) (T := TX0) (N := 10) hx hb hts (by decide +kernel) hown hK hP 0 rfl rfl 5 (by decide) (hts (.fieldLink RX0 26 "CommitLog" "powered" "Z") (by decide +kernel)) (fun _ h9 => h9) rfl dX0_revert_1 ?_
    refine lv_if_ne (tgt := 9) hx hb dX0_revert_4 (by decide) (fun c_1 => ?_) (fun c_1 => ?_)
    · -- T of pc 4
      exact absurd (by decide) c_1
    · -- F of pc 4
      refine lv_iconst (v := 0) hx hb dX0_revert_7 (by decide) ?_
      exact hret _ _ _ _ _ hP hD hS rfl dX0_revert_8
  | true =>
    refine ct_i.of (cc := cX0_revert) (maxL := 1) (ty := .boolean) (by decide) rfl (Nat.le_of_ble_eq_true rfl) (nb_bI _) ?_
    intro p e s m args below meth c ls A Q hx hb hml hts hown hK hP hD hA hS hl hret
    have hown : s.vm.findClass RX0 = some m.cls := hown
    have hl : lv_has ls 1 [(0, .ref h0)] := hl
    have hP : va_P D vwCl [(h0, .inr (0, [.ref a1, .ref a2, .ref a3, .ref a4, .ref a5, .int 1, .int (bI mk), .int (nI lc), .int (nI cu), .int (nI cs)])), (a1, .inl (k1, 384, .inl fw)), (a2, .inl (k2, 384, .inl fd)), (a3, .inl (k3, 384, .inl fb)), (a4, .inl (k4, 24, .inl (fun j => bI (dz j)))), (a5, .inl (k5, 24, .inl (fun j => bI (lq j))))] s.heap := hP
    have hD : va_D A [(h0, .inr (0, [.ref a1, .ref a2, .ref a3, .ref a4, .ref a5, .int 1, .int (bI mk), .int (nI lc), .int (nI cu), .int (nI cs)])), (a1, .inl (k1, 384, .inl fw)), (a2, .inl (k2, 384, .inl fd)), (a3, .inl (k3, 384, .inl fb)), (a4, .inl (k4, 24, .inl (fun j => bI (dz j)))), (a5, .inl (k5, 24, .inl (fun j => bI (lq j))))] := hD
    refine lv_aload_n hx hb dX0_revert_0 rfl (lv_at hl 0 rfl) ?_
    refine va_get (ci := 0) (v := .int 1) (C := RX0) (T := TX0) (N := 10) hx hb hts (by decide +kernel) hown hK hP 0 rfl rfl 5 (by decide) (hts (.fieldLink RX0 26 "CommitLog" "powered" "Z") (by decide +kernel)) (fun _ h9 => h9) rfl dX0_revert_1 ?_
    refine lv_if_ne (tgt := 9) hx hb dX0_revert_4 (by decide) (fun c_1 => ?_) (fun c_1 => ?_)
    · -- T of pc 4
      refine lv_aload_n hx hb dX0_revert_9 rfl (lv_at hl 0 rfl) ?_
      refine ct_Vv (As := []) (rest := []) (wr := []) (wn := [(h0, .inr (0, [.ref a1, .ref a2, .ref a3, .ref a4, .ref a5, .int 1, .int (bI mk), .int (nI lc), .int (nI cu), .int (nI cs)])), (a1, .inl (k1, 384, .inl (va_cpy fd fw 0 0 384))), (a2, .inl (k2, 384, .inl fd)), (a3, .inl (k3, 384, .inl fb)), (a4, .inl (k4, 24, .inl (fun j => bI (clr dz 24 j)))), (a5, .inl (k5, 24, .inl (fun j => bI (lq j))))]) ⟨hx, hb, hml, hown, hts⟩ (c0_takeWork l D h0 a1 a2 a3 a4 a5 k1 k2 k3 k4 k5 fw fd fb lq dz true mk lc cu cs) (cwV 0 hts gX0_revert_X0_takeWorkFromDisk rfl rfl rfl (by decide +kernel) ⟨Nat.le_of_ble_eq_true rfl, Nat.le_of_ble_eq_true rfl⟩) hK hP hD hS hA [0, 1, 2, 3, 4, 5] [] [0, 1, 2, 3, 4] [0, 1, 2, 3, 4, 5] rfl rfl (by decide) rfl (by decide) (by decide) rfl (by decide) 0 rfl 0 rfl rfl hl.1 rfl (Nat.le_of_ble_eq_true rfl) dX0_revert_10 ⟨Nat.zero_le _, Nat.zero_le _⟩ (fun H locs hP hD hS => ?_)
      refine lv_iconst (v := 1) hx hb dX0_revert_13 (by decide) ?_
      exact hret _ _ _ _ _ hP hD hS rfl dX0_revert_14
    · -- F of pc 4
      exact absurd c_1 (by decide)
theorem ct_bad {n : Int32} (h1 : ¬ n < 1) (h2 : ¬ 1000 < n) : ¬ (n < 0 ∨ nI 1001 ≤ n) := by
  have e1 : (1 : Int32).toInt = 1 := rfl
  have e2 : (1000 : Int32).toInt = 1000 := rfl
  have e3 : (nI 1001).toInt = 1001 := rfl
  have e0 : (0 : Int32).toInt = 0 := rfl
  rw [Int32.lt_iff_toInt_lt] at h1 h2
  rintro (h | h)
  · rw [Int32.lt_iff_toInt_lt] at h; omega
  · rw [Int32.le_iff_toInt_le] at h; omega
theorem ct_bad2 {t : Int32} (h1 : ¬ t < 0) (h2 : t < 1000) : ¬ (t < 0 ∨ nI 1000 ≤ t) := by
  have e2 : (1000 : Int32).toInt = 1000 := rfl
  have e3 : (nI 1000).toInt = 1000 := rfl
  rw [Int32.lt_iff_toInt_lt] at h2
  rintro (h | h)
  · exact h1 h
  · rw [Int32.le_iff_toInt_le] at h; omega
set_option maxHeartbeats 4000000 in
set_option maxRecDepth 100000 in
theorem c0_cut (l : Launch) (D : va_G) (h0 a1 a2 a3 a4 a5 : Nat) (k1 k2 k3 k4 k5 : ClassId) (fw fd fb : Nat → Int32) (lq dz : Nat → Bool) (pw mk : Bool) (lc cu cs : Nat) (n t : Int32) : ct_i l yX0_cut wsX0_cut ({ frames := 0, cells := 0, slots := 0, locals := 0 }) D vwCl (XT k1 k2 k3 k4 k5) [.ref h0, .int n, .int t] (XW h0 a1 a2 a3 a4 a5 k1 k2 k3 k4 k5 fw fd fb lq dz pw mk lc cu cs) (XW h0 a1 a2 a3 a4 a5 k1 k2 k3 k4 k5 fw fd fb lq dz pw mk lc ((xct pw cu cs n t).1) ((xct pw cu cs n t).2.1)) (bI (xct pw cu cs n t).2.2) := by
  cases pw with
  | false =>
    simp only [xct]
    refine ct_i.of (cc := cX0_cut) (maxL := 3) (ty := .boolean) (by decide) rfl (Nat.le_of_ble_eq_true rfl) (nb_bI _) ?_
    intro p e s m args below meth c ls A Q hx hb hml hts hown hK hP hD hA hS hl hret
    have hown : s.vm.findClass RX0 = some m.cls := hown
    have hl : lv_has ls 3 [(0, .ref h0), (1, .int n), (2, .int t)] := hl
    have hP : va_P D vwCl [(h0, .inr (0, [.ref a1, .ref a2, .ref a3, .ref a4, .ref a5, .int 0, .int (bI mk), .int (nI lc), .int (nI cu), .int (nI cs)])), (a1, .inl (k1, 384, .inl fw)), (a2, .inl (k2, 384, .inl fd)), (a3, .inl (k3, 384, .inl fb)), (a4, .inl (k4, 24, .inl (fun j => bI (dz j)))), (a5, .inl (k5, 24, .inl (fun j => bI (lq j))))] s.heap := hP
    have hD : va_D A [(h0, .inr (0, [.ref a1, .ref a2, .ref a3, .ref a4, .ref a5, .int 0, .int (bI mk), .int (nI lc), .int (nI cu), .int (nI cs)])), (a1, .inl (k1, 384, .inl fw)), (a2, .inl (k2, 384, .inl fd)), (a3, .inl (k3, 384, .inl fb)), (a4, .inl (k4, 24, .inl (fun j => bI (dz j)))), (a5, .inl (k5, 24, .inl (fun j => bI (lq j))))] := hD
    refine lv_aload_n hx hb dX0_cut_0 rfl (lv_at hl 0 rfl) ?_
    refine va_get (ci := 0) (v := .int 0) (C := RX0) (T := TX0) (N := 10) hx hb hts (by decide +kernel) hown hK hP 0 rfl rfl 5 (by decide) (hts (.fieldLink RX0 26 "CommitLog" "powered" "Z") (by decide +kernel)) (fun _ h9 => h9) rfl dX0_cut_1 ?_
    refine lv_if_eq (tgt := 30) hx hb dX0_cut_4 (by decide) (fun c_1 => ?_) (fun c_1 => ?_)
    · -- T of pc 4
      refine lv_iconst (v := 0) hx hb dX0_cut_30 (by decide) ?_
      exact hret _ _ _ _ _ hP hD hS rfl dX0_cut_31
    · -- F of pc 4
      exact absurd (by decide) c_1
  | true =>
    rcases ix_cases 1001 (by decide) n with ⟨e1, h1⟩ | ⟨k, hk, rfl, e1⟩
    · simp only [xct, e1]
      refine ct_i.of (cc := cX0_cut) (maxL := 3) (ty := .boolean) (by decide) rfl (Nat.le_of_ble_eq_true rfl) (nb_bI _) ?_
      intro p e s m args below meth c ls A Q hx hb hml hts hown hK hP hD hA hS hl hret
      have hown : s.vm.findClass RX0 = some m.cls := hown
      have hl : lv_has ls 3 [(0, .ref h0), (1, .int n), (2, .int t)] := hl
      have hP : va_P D vwCl [(h0, .inr (0, [.ref a1, .ref a2, .ref a3, .ref a4, .ref a5, .int 1, .int (bI mk), .int (nI lc), .int (nI cu), .int (nI cs)])), (a1, .inl (k1, 384, .inl fw)), (a2, .inl (k2, 384, .inl fd)), (a3, .inl (k3, 384, .inl fb)), (a4, .inl (k4, 24, .inl (fun j => bI (dz j)))), (a5, .inl (k5, 24, .inl (fun j => bI (lq j))))] s.heap := hP
      have hD : va_D A [(h0, .inr (0, [.ref a1, .ref a2, .ref a3, .ref a4, .ref a5, .int 1, .int (bI mk), .int (nI lc), .int (nI cu), .int (nI cs)])), (a1, .inl (k1, 384, .inl fw)), (a2, .inl (k2, 384, .inl fd)), (a3, .inl (k3, 384, .inl fb)), (a4, .inl (k4, 24, .inl (fun j => bI (dz j)))), (a5, .inl (k5, 24, .inl (fun j => bI (lq j))))] := hD
      refine lv_aload_n hx hb dX0_cut_0 rfl (lv_at hl 0 rfl) ?_
      refine va_get (ci := 0) (v := .int 1) (C := RX0) (T := TX0) (N := 10) hx hb hts (by decide +kernel) hown hK hP 0 rfl rfl 5 (by decide) (hts (.fieldLink RX0 26 "CommitLog" "powered" "Z") (by decide +kernel)) (fun _ h9 => h9) rfl dX0_cut_1 ?_
      refine lv_if_eq (tgt := 30) hx hb dX0_cut_4 (by decide) (fun c_1 => ?_) (fun c_1 => ?_)
      · -- T of pc 4
        exact absurd c_1 (by decide)
      · -- F of pc 4
        refine lv_iload_n hx hb dX0_cut_7 rfl (lv_at hl 1 rfl) ?_
        refine lv_iconst (v := 1) hx hb dX0_cut_8 (by decide) ?_
        refine lv_icmp_lt (tgt := 30) hx hb dX0_cut_9 (by decide) (fun c_2 => ?_) (fun c_2 => ?_)
        · -- T of pc 9
          refine lv_iconst (v := 0) hx hb dX0_cut_30 (by decide) ?_
          exact hret _ _ _ _ _ hP hD hS rfl dX0_cut_31
        · -- F of pc 9
          refine lv_iload_n hx hb dX0_cut_12 rfl (lv_at hl 1 rfl) ?_
          refine lv_sipush (v := 1000) hx hb dX0_cut_13 (by decide) ?_
          refine lv_icmp_gt (tgt := 30) hx hb dX0_cut_16 (by decide) (fun c_3 => ?_) (fun c_3 => ?_)
          · -- T of pc 16
            refine lv_iconst (v := 0) hx hb dX0_cut_30 (by decide) ?_
            exact hret _ _ _ _ _ hP hD hS rfl dX0_cut_31
          · -- F of pc 16
            exact absurd h1 (ct_bad c_2 c_3)
    · match k, hk, e1 with
      | 0, _, e1 =>
        simp only [xct, e1]
        refine ct_i.of (cc := cX0_cut) (maxL := 3) (ty := .boolean) (by decide) rfl (Nat.le_of_ble_eq_true rfl) (nb_bI _) ?_
        intro p e s m args below meth c ls A Q hx hb hml hts hown hK hP hD hA hS hl hret
        have hown : s.vm.findClass RX0 = some m.cls := hown
        have hl : lv_has ls 3 [(0, .ref h0), (1, .int (nI 0)), (2, .int t)] := hl
        have hP : va_P D vwCl [(h0, .inr (0, [.ref a1, .ref a2, .ref a3, .ref a4, .ref a5, .int 1, .int (bI mk), .int (nI lc), .int (nI cu), .int (nI cs)])), (a1, .inl (k1, 384, .inl fw)), (a2, .inl (k2, 384, .inl fd)), (a3, .inl (k3, 384, .inl fb)), (a4, .inl (k4, 24, .inl (fun j => bI (dz j)))), (a5, .inl (k5, 24, .inl (fun j => bI (lq j))))] s.heap := hP
        have hD : va_D A [(h0, .inr (0, [.ref a1, .ref a2, .ref a3, .ref a4, .ref a5, .int 1, .int (bI mk), .int (nI lc), .int (nI cu), .int (nI cs)])), (a1, .inl (k1, 384, .inl fw)), (a2, .inl (k2, 384, .inl fd)), (a3, .inl (k3, 384, .inl fb)), (a4, .inl (k4, 24, .inl (fun j => bI (dz j)))), (a5, .inl (k5, 24, .inl (fun j => bI (lq j))))] := hD
        refine lv_aload_n hx hb dX0_cut_0 rfl (lv_at hl 0 rfl) ?_
        refine va_get (ci := 0) (v := .int 1) (C := RX0) (T := TX0) (N := 10) hx hb hts (by decide +kernel) hown hK hP 0 rfl rfl 5 (by decide) (hts (.fieldLink RX0 26 "CommitLog" "powered" "Z") (by decide +kernel)) (fun _ h9 => h9) rfl dX0_cut_1 ?_
        refine lv_if_eq (tgt := 30) hx hb dX0_cut_4 (by decide) (fun c_1 => ?_) (fun c_1 => ?_)
        · -- T of pc 4
          exact absurd c_1 (by decide)
        · -- F of pc 4
          refine lv_iload_n hx hb dX0_cut_7 rfl (lv_at hl 1 rfl) ?_
          refine lv_iconst (v := 1) hx hb dX0_cut_8 (by decide) ?_
          refine lv_icmp_lt (tgt := 30) hx hb dX0_cut_9 (by decide) (fun c_2 => ?_) (fun c_2 => ?_)
          · -- T of pc 9
            refine lv_iconst (v := 0) hx hb dX0_cut_30 (by decide) ?_
            exact hret _ _ _ _ _ hP hD hS rfl dX0_cut_31
          · -- F of pc 9
            exact absurd (by decide) c_2
      | k + 1, hk, e1 =>
        rcases ix_cases 1000 (by decide) t with ⟨e2, h2⟩ | ⟨j, hj, rfl, e2⟩
        · simp only [xct, e1, e2]
          refine ct_i.of (cc := cX0_cut) (maxL := 3) (ty := .boolean) (by decide) rfl (Nat.le_of_ble_eq_true rfl) (nb_bI _) ?_
          intro p e s m args below meth c ls A Q hx hb hml hts hown hK hP hD hA hS hl hret
          have hown : s.vm.findClass RX0 = some m.cls := hown
          have hl : lv_has ls 3 [(0, .ref h0), (1, .int (nI (k + 1))), (2, .int t)] := hl
          have hP : va_P D vwCl [(h0, .inr (0, [.ref a1, .ref a2, .ref a3, .ref a4, .ref a5, .int 1, .int (bI mk), .int (nI lc), .int (nI cu), .int (nI cs)])), (a1, .inl (k1, 384, .inl fw)), (a2, .inl (k2, 384, .inl fd)), (a3, .inl (k3, 384, .inl fb)), (a4, .inl (k4, 24, .inl (fun j => bI (dz j)))), (a5, .inl (k5, 24, .inl (fun j => bI (lq j))))] s.heap := hP
          have hD : va_D A [(h0, .inr (0, [.ref a1, .ref a2, .ref a3, .ref a4, .ref a5, .int 1, .int (bI mk), .int (nI lc), .int (nI cu), .int (nI cs)])), (a1, .inl (k1, 384, .inl fw)), (a2, .inl (k2, 384, .inl fd)), (a3, .inl (k3, 384, .inl fb)), (a4, .inl (k4, 24, .inl (fun j => bI (dz j)))), (a5, .inl (k5, 24, .inl (fun j => bI (lq j))))] := hD
          refine lv_aload_n hx hb dX0_cut_0 rfl (lv_at hl 0 rfl) ?_
          refine va_get (ci := 0) (v := .int 1) (C := RX0) (T := TX0) (N := 10) hx hb hts (by decide +kernel) hown hK hP 0 rfl rfl 5 (by decide) (hts (.fieldLink RX0 26 "CommitLog" "powered" "Z") (by decide +kernel)) (fun _ h9 => h9) rfl dX0_cut_1 ?_
          refine lv_if_eq (tgt := 30) hx hb dX0_cut_4 (by decide) (fun c_1 => ?_) (fun c_1 => ?_)
          · -- T of pc 4
            exact absurd c_1 (by decide)
          · -- F of pc 4
            refine lv_iload_n hx hb dX0_cut_7 rfl (lv_at hl 1 rfl) ?_
            refine lv_iconst (v := 1) hx hb dX0_cut_8 (by decide) ?_
            refine lv_icmp_lt (tgt := 30) hx hb dX0_cut_9 (by decide) (fun c_2 => ?_) (fun c_2 => ?_)
            · -- T of pc 9
              exact absurd c_2 (show ¬ nI (k + 1) < nI 1 from nI_nlt (by omega) (by omega))
            · -- F of pc 9
              refine lv_iload_n hx hb dX0_cut_12 rfl (lv_at hl 1 rfl) ?_
              refine lv_sipush (v := 1000) hx hb dX0_cut_13 (by decide) ?_
              refine lv_icmp_gt (tgt := 30) hx hb dX0_cut_16 (by decide) (fun c_3 => ?_) (fun c_3 => ?_)
              · -- T of pc 16
                exact absurd c_3 (show ¬ nI 1000 < nI (k + 1) from nI_nlt (by omega) (by decide))
              · -- F of pc 16
                refine lv_iload_n hx hb dX0_cut_19 rfl (lv_at hl 2 rfl) ?_
                refine lv_if_lt (tgt := 30) hx hb dX0_cut_20 (by decide) (fun c_4 => ?_) (fun c_4 => ?_)
                · -- T of pc 20
                  refine lv_iconst (v := 0) hx hb dX0_cut_30 (by decide) ?_
                  exact hret _ _ _ _ _ hP hD hS rfl dX0_cut_31
                · -- F of pc 20
                  refine lv_iload_n hx hb dX0_cut_23 rfl (lv_at hl 2 rfl) ?_
                  refine lv_sipush (v := 1000) hx hb dX0_cut_24 (by decide) ?_
                  refine lv_icmp_lt (tgt := 32) hx hb dX0_cut_27 (by decide) (fun c_5 => ?_) (fun c_5 => ?_)
                  · -- T of pc 27
                    exact absurd h2 (ct_bad2 c_4 c_5)
                  · -- F of pc 27
                    refine lv_iconst (v := 0) hx hb dX0_cut_30 (by decide) ?_
                    exact hret _ _ _ _ _ hP hD hS rfl dX0_cut_31
        · simp only [xct, e1, e2]
          refine ct_i.of (cc := cX0_cut) (maxL := 3) (ty := .boolean) (by decide) rfl (Nat.le_of_ble_eq_true rfl) (nb_bI _) ?_
          intro p e s m args below meth c ls A Q hx hb hml hts hown hK hP hD hA hS hl hret
          have hown : s.vm.findClass RX0 = some m.cls := hown
          have hl : lv_has ls 3 [(0, .ref h0), (1, .int (nI (k + 1))), (2, .int (nI j))] := hl
          have hP : va_P D vwCl [(h0, .inr (0, [.ref a1, .ref a2, .ref a3, .ref a4, .ref a5, .int 1, .int (bI mk), .int (nI lc), .int (nI cu), .int (nI cs)])), (a1, .inl (k1, 384, .inl fw)), (a2, .inl (k2, 384, .inl fd)), (a3, .inl (k3, 384, .inl fb)), (a4, .inl (k4, 24, .inl (fun j => bI (dz j)))), (a5, .inl (k5, 24, .inl (fun j => bI (lq j))))] s.heap := hP
          have hD : va_D A [(h0, .inr (0, [.ref a1, .ref a2, .ref a3, .ref a4, .ref a5, .int 1, .int (bI mk), .int (nI lc), .int (nI cu), .int (nI cs)])), (a1, .inl (k1, 384, .inl fw)), (a2, .inl (k2, 384, .inl fd)), (a3, .inl (k3, 384, .inl fb)), (a4, .inl (k4, 24, .inl (fun j => bI (dz j)))), (a5, .inl (k5, 24, .inl (fun j => bI (lq j))))] := hD
          refine lv_aload_n hx hb dX0_cut_0 rfl (lv_at hl 0 rfl) ?_
          refine va_get (ci := 0) (v := .int 1) (C := RX0) (T := TX0) (N := 10) hx hb hts (by decide +kernel) hown hK hP 0 rfl rfl 5 (by decide) (hts (.fieldLink RX0 26 "CommitLog" "powered" "Z") (by decide +kernel)) (fun _ h9 => h9) rfl dX0_cut_1 ?_
          refine lv_if_eq (tgt := 30) hx hb dX0_cut_4 (by decide) (fun c_1 => ?_) (fun c_1 => ?_)
          · -- T of pc 4
            exact absurd c_1 (by decide)
          · -- F of pc 4
            refine lv_iload_n hx hb dX0_cut_7 rfl (lv_at hl 1 rfl) ?_
            refine lv_iconst (v := 1) hx hb dX0_cut_8 (by decide) ?_
            refine lv_icmp_lt (tgt := 30) hx hb dX0_cut_9 (by decide) (fun c_2 => ?_) (fun c_2 => ?_)
            · -- T of pc 9
              exact absurd c_2 (show ¬ nI (k + 1) < nI 1 from nI_nlt (by omega) (by omega))
            · -- F of pc 9
              refine lv_iload_n hx hb dX0_cut_12 rfl (lv_at hl 1 rfl) ?_
              refine lv_sipush (v := 1000) hx hb dX0_cut_13 (by decide) ?_
              refine lv_icmp_gt (tgt := 30) hx hb dX0_cut_16 (by decide) (fun c_3 => ?_) (fun c_3 => ?_)
              · -- T of pc 16
                exact absurd c_3 (show ¬ nI 1000 < nI (k + 1) from nI_nlt (by omega) (by decide))
              · -- F of pc 16
                refine lv_iload_n hx hb dX0_cut_19 rfl (lv_at hl 2 rfl) ?_
                refine lv_if_lt (tgt := 30) hx hb dX0_cut_20 (by decide) (fun c_4 => ?_) (fun c_4 => ?_)
                · -- T of pc 20
                  exact absurd c_4 (nI_pos (by omega))
                · -- F of pc 20
                  refine lv_iload_n hx hb dX0_cut_23 rfl (lv_at hl 2 rfl) ?_
                  refine lv_sipush (v := 1000) hx hb dX0_cut_24 (by decide) ?_
                  refine lv_icmp_lt (tgt := 32) hx hb dX0_cut_27 (by decide) (fun c_5 => ?_) (fun c_5 => ?_)
                  · -- T of pc 27
                    refine lv_aload_n hx hb dX0_cut_32 rfl (lv_at hl 0 rfl) ?_
                    refine lv_iload_n hx hb dX0_cut_33 rfl (lv_at hl 1 rfl) ?_
                    refine va_put (ci := 0) (v := .int (nI (k + 1))) (ty := .int) (C := RX0) (T := TX0) (N := 10) hx hb hts (by decide +kernel) tyX0 tyX0_ok nmX0 hown hK hP hD hS 0 rfl rfl 8 (by decide) (hts (.fieldLink RX0 37 "CommitLog" "commitsUntilCut" "I") (by decide +kernel)) (fun _ h9 => h9) rfl (by decide +kernel) rfl rfl (Nat.le_of_ble_eq_true rfl) dX0_cut_34 (fun H locs hP hD hS => ?_)
                    have hP : va_P D vwCl [(h0, .inr (0, [.ref a1, .ref a2, .ref a3, .ref a4, .ref a5, .int 1, .int (bI mk), .int (nI lc), .int (nI (k + 1)), .int (nI cs)])), (a1, .inl (k1, 384, .inl fw)), (a2, .inl (k2, 384, .inl fd)), (a3, .inl (k3, 384, .inl fb)), (a4, .inl (k4, 24, .inl (fun j => bI (dz j)))), (a5, .inl (k5, 24, .inl (fun j => bI (lq j))))] H := hP
                    have hD : va_D _ [(h0, .inr (0, [.ref a1, .ref a2, .ref a3, .ref a4, .ref a5, .int 1, .int (bI mk), .int (nI lc), .int (nI (k + 1)), .int (nI cs)])), (a1, .inl (k1, 384, .inl fw)), (a2, .inl (k2, 384, .inl fd)), (a3, .inl (k3, 384, .inl fb)), (a4, .inl (k4, 24, .inl (fun j => bI (dz j)))), (a5, .inl (k5, 24, .inl (fun j => bI (lq j))))] := hD
                    refine lv_aload_n hx hb dX0_cut_37 rfl (lv_at hl 0 rfl) ?_
                    refine lv_iload_n hx hb dX0_cut_38 rfl (lv_at hl 2 rfl) ?_
                    refine va_put (ci := 0) (v := .int (nI j)) (ty := .int) (C := RX0) (T := TX0) (N := 10) hx hb hts (by decide +kernel) tyX0 tyX0_ok nmX0 hown hK hP hD hS 0 rfl rfl 9 (by decide) (hts (.fieldLink RX0 40 "CommitLog" "cutShare" "I") (by decide +kernel)) (fun _ h9 => h9) rfl (by decide +kernel) rfl rfl (Nat.le_of_ble_eq_true rfl) dX0_cut_39 (fun H locs hP hD hS => ?_)
                    have hP : va_P D vwCl [(h0, .inr (0, [.ref a1, .ref a2, .ref a3, .ref a4, .ref a5, .int 1, .int (bI mk), .int (nI lc), .int (nI (k + 1)), .int (nI j)])), (a1, .inl (k1, 384, .inl fw)), (a2, .inl (k2, 384, .inl fd)), (a3, .inl (k3, 384, .inl fb)), (a4, .inl (k4, 24, .inl (fun j => bI (dz j)))), (a5, .inl (k5, 24, .inl (fun j => bI (lq j))))] H := hP
                    have hD : va_D _ [(h0, .inr (0, [.ref a1, .ref a2, .ref a3, .ref a4, .ref a5, .int 1, .int (bI mk), .int (nI lc), .int (nI (k + 1)), .int (nI j)])), (a1, .inl (k1, 384, .inl fw)), (a2, .inl (k2, 384, .inl fd)), (a3, .inl (k3, 384, .inl fb)), (a4, .inl (k4, 24, .inl (fun j => bI (dz j)))), (a5, .inl (k5, 24, .inl (fun j => bI (lq j))))] := hD
                    refine lv_iconst (v := 1) hx hb dX0_cut_42 (by decide) ?_
                    exact hret _ _ _ _ _ hP hD hS rfl dX0_cut_43
                  · -- F of pc 27
                    exact absurd (show nI j < nI 1000 from nI_lt (by omega) (by decide)) c_5
theorem st_out {x : Int32} (h : x < 0 ∨ nI 3 ≤ x) : x.toInt < 0 ∨ 2 < x.toInt := by
  have e3 : (nI 3).toInt = 3 := rfl
  have e0 : (0 : Int32).toInt = 0 := rfl
  rcases h with h | h
  · rw [Int32.lt_iff_toInt_lt] at h; omega
  · rw [Int32.le_iff_toInt_le] at h; omega
set_option maxHeartbeats 4000000 in
set_option maxRecDepth 100000 in
theorem c0_state (l : Launch) (D : va_G) (h0 a1 a2 a3 a4 a5 : Nat) (k1 k2 k3 k4 k5 : ClassId) (fw fd fb : Nat → Int32) (lq dz : Nat → Bool) (pw mk : Bool) (lc cu cs : Nat) (x : Int32) : ct_i l yX0_state wsX0_state ({ frames := 0, cells := 0, slots := 0, locals := 0 }) D vwCl (XT k1 k2 k3 k4 k5) [.ref h0, .int x] (XW h0 a1 a2 a3 a4 a5 k1 k2 k3 k4 k5 fw fd fb lq dz pw mk lc cu cs) (XW h0 a1 a2 a3 a4 a5 k1 k2 k3 k4 k5 fw fd fb lq dz pw mk lc cu cs) (xst pw mk lc x) := by
  rcases ix_cases 3 (by decide) x with ⟨e1, h1⟩ | ⟨k, hk, rfl, e1⟩
  · simp only [xst, e1]
    have h1 := st_out h1
    refine ct_i.of (cc := cX0_state) (maxL := 2) (ty := .int) (by decide) rfl (Nat.le_of_ble_eq_true rfl) rfl ?_
    intro p e s m args below meth c ls A Q hx hb hml hts hown hK hP hD hA hS hl hret
    have hown : s.vm.findClass RX0 = some m.cls := hown
    have hl : lv_has ls 2 [(0, .ref h0), (1, .int x)] := hl
    have hP : va_P D vwCl [(h0, .inr (0, [.ref a1, .ref a2, .ref a3, .ref a4, .ref a5, .int (bI pw), .int (bI mk), .int (nI lc), .int (nI cu), .int (nI cs)])), (a1, .inl (k1, 384, .inl fw)), (a2, .inl (k2, 384, .inl fd)), (a3, .inl (k3, 384, .inl fb)), (a4, .inl (k4, 24, .inl (fun j => bI (dz j)))), (a5, .inl (k5, 24, .inl (fun j => bI (lq j))))] s.heap := hP
    have hD : va_D A [(h0, .inr (0, [.ref a1, .ref a2, .ref a3, .ref a4, .ref a5, .int (bI pw), .int (bI mk), .int (nI lc), .int (nI cu), .int (nI cs)])), (a1, .inl (k1, 384, .inl fw)), (a2, .inl (k2, 384, .inl fd)), (a3, .inl (k3, 384, .inl fb)), (a4, .inl (k4, 24, .inl (fun j => bI (dz j)))), (a5, .inl (k5, 24, .inl (fun j => bI (lq j))))] := hD
    refine lv_iload_n hx hb dX0_state_0 rfl (lv_at hl 1 rfl) ?_
    refine lv_tableOut (tgt := 59) hx hb dX0_state_1 h1 (by decide) ?_
    refine lv_iconst (v := (-1)) hx hb dX0_state_59 (by decide) ?_
    exact hret _ _ _ _ _ hP hD hS (by first | rfl | exact dz_0 (by assumption) | exact dz_1 (by assumption)) dX0_state_60
  · match k, hk, e1 with
    | 0, _, e1 =>
      simp only [xst, e1]
      refine ct_i.of (cc := cX0_state) (maxL := 2) (ty := .int) (by decide) rfl (Nat.le_of_ble_eq_true rfl) rfl ?_
      intro p e s m args below meth c ls A Q hx hb hml hts hown hK hP hD hA hS hl hret
      have hown : s.vm.findClass RX0 = some m.cls := hown
      have hl : lv_has ls 2 [(0, .ref h0), (1, .int (nI 0))] := hl
      have hP : va_P D vwCl [(h0, .inr (0, [.ref a1, .ref a2, .ref a3, .ref a4, .ref a5, .int (bI pw), .int (bI mk), .int (nI lc), .int (nI cu), .int (nI cs)])), (a1, .inl (k1, 384, .inl fw)), (a2, .inl (k2, 384, .inl fd)), (a3, .inl (k3, 384, .inl fb)), (a4, .inl (k4, 24, .inl (fun j => bI (dz j)))), (a5, .inl (k5, 24, .inl (fun j => bI (lq j))))] s.heap := hP
      have hD : va_D A [(h0, .inr (0, [.ref a1, .ref a2, .ref a3, .ref a4, .ref a5, .int (bI pw), .int (bI mk), .int (nI lc), .int (nI cu), .int (nI cs)])), (a1, .inl (k1, 384, .inl fw)), (a2, .inl (k2, 384, .inl fd)), (a3, .inl (k3, 384, .inl fb)), (a4, .inl (k4, 24, .inl (fun j => bI (dz j)))), (a5, .inl (k5, 24, .inl (fun j => bI (lq j))))] := hD
      refine lv_iload_n hx hb dX0_state_0 rfl (lv_at hl 1 rfl) ?_
      refine lv_tableIn (tgt := 28) hx hb dX0_state_1 (by decide) (by decide) rfl (by decide) ?_
      refine lv_aload_n hx hb dX0_state_28 rfl (lv_at hl 0 rfl) ?_
      refine va_get (ci := 0) (v := .int (bI pw)) (C := RX0) (T := TX0) (N := 10) hx hb hts (by decide +kernel) hown hK hP 0 rfl rfl 5 (by decide) (hts (.fieldLink RX0 26 "CommitLog" "powered" "Z") (by decide +kernel)) (fun _ h9 => h9) rfl dX0_state_29 ?_
      refine lv_if_eq (tgt := 39) hx hb dX0_state_32 (by decide) (fun c_1 => ?_) (fun c_1 => ?_)
      · -- T of pc 32
        refine lv_iconst (v := 0) hx hb dX0_state_39 (by decide) ?_
        exact hret _ _ _ _ _ hP hD hS (by first | rfl | exact dz_0 (by assumption) | exact dz_1 (by assumption)) dX0_state_40
      · -- F of pc 32
        refine lv_iconst (v := 1) hx hb dX0_state_35 (by decide) ?_
        refine lv_goto (tgt := 40) hx hb dX0_state_36 (by decide) ?_
        exact hret _ _ _ _ _ hP hD hS (by first | rfl | exact dz_0 (by assumption) | exact dz_1 (by assumption)) dX0_state_40
    | 1, _, e1 =>
      simp only [xst, e1]
      refine ct_i.of (cc := cX0_state) (maxL := 2) (ty := .int) (by decide) rfl (Nat.le_of_ble_eq_true rfl) rfl ?_
      intro p e s m args below meth c ls A Q hx hb hml hts hown hK hP hD hA hS hl hret
      have hown : s.vm.findClass RX0 = some m.cls := hown
      have hl : lv_has ls 2 [(0, .ref h0), (1, .int (nI 1))] := hl
      have hP : va_P D vwCl [(h0, .inr (0, [.ref a1, .ref a2, .ref a3, .ref a4, .ref a5, .int (bI pw), .int (bI mk), .int (nI lc), .int (nI cu), .int (nI cs)])), (a1, .inl (k1, 384, .inl fw)), (a2, .inl (k2, 384, .inl fd)), (a3, .inl (k3, 384, .inl fb)), (a4, .inl (k4, 24, .inl (fun j => bI (dz j)))), (a5, .inl (k5, 24, .inl (fun j => bI (lq j))))] s.heap := hP
      have hD : va_D A [(h0, .inr (0, [.ref a1, .ref a2, .ref a3, .ref a4, .ref a5, .int (bI pw), .int (bI mk), .int (nI lc), .int (nI cu), .int (nI cs)])), (a1, .inl (k1, 384, .inl fw)), (a2, .inl (k2, 384, .inl fd)), (a3, .inl (k3, 384, .inl fb)), (a4, .inl (k4, 24, .inl (fun j => bI (dz j)))), (a5, .inl (k5, 24, .inl (fun j => bI (lq j))))] := hD
      refine lv_iload_n hx hb dX0_state_0 rfl (lv_at hl 1 rfl) ?_
      refine lv_tableIn (tgt := 41) hx hb dX0_state_1 (by decide) (by decide) rfl (by decide) ?_
      refine lv_aload_n hx hb dX0_state_41 rfl (lv_at hl 0 rfl) ?_
      refine va_get (ci := 0) (v := .int (bI mk)) (C := RX0) (T := TX0) (N := 10) hx hb hts (by decide +kernel) hown hK hP 0 rfl rfl 6 (by decide) (hts (.fieldLink RX0 30 "CommitLog" "marked" "Z") (by decide +kernel)) (fun _ h9 => h9) rfl dX0_state_42 ?_
      refine lv_if_eq (tgt := 52) hx hb dX0_state_45 (by decide) (fun c_1 => ?_) (fun c_1 => ?_)
      · -- T of pc 45
        refine lv_iconst (v := 0) hx hb dX0_state_52 (by decide) ?_
        exact hret _ _ _ _ _ hP hD hS (by first | rfl | exact dz_0 (by assumption) | exact dz_1 (by assumption)) dX0_state_53
      · -- F of pc 45
        refine lv_iconst (v := 1) hx hb dX0_state_48 (by decide) ?_
        refine lv_goto (tgt := 53) hx hb dX0_state_49 (by decide) ?_
        exact hret _ _ _ _ _ hP hD hS (by first | rfl | exact dz_0 (by assumption) | exact dz_1 (by assumption)) dX0_state_53
    | 2, _, e1 =>
      simp only [xst, e1]
      refine ct_i.of (cc := cX0_state) (maxL := 2) (ty := .int) (by decide) rfl (Nat.le_of_ble_eq_true rfl) rfl ?_
      intro p e s m args below meth c ls A Q hx hb hml hts hown hK hP hD hA hS hl hret
      have hown : s.vm.findClass RX0 = some m.cls := hown
      have hl : lv_has ls 2 [(0, .ref h0), (1, .int (nI 2))] := hl
      have hP : va_P D vwCl [(h0, .inr (0, [.ref a1, .ref a2, .ref a3, .ref a4, .ref a5, .int (bI pw), .int (bI mk), .int (nI lc), .int (nI cu), .int (nI cs)])), (a1, .inl (k1, 384, .inl fw)), (a2, .inl (k2, 384, .inl fd)), (a3, .inl (k3, 384, .inl fb)), (a4, .inl (k4, 24, .inl (fun j => bI (dz j)))), (a5, .inl (k5, 24, .inl (fun j => bI (lq j))))] s.heap := hP
      have hD : va_D A [(h0, .inr (0, [.ref a1, .ref a2, .ref a3, .ref a4, .ref a5, .int (bI pw), .int (bI mk), .int (nI lc), .int (nI cu), .int (nI cs)])), (a1, .inl (k1, 384, .inl fw)), (a2, .inl (k2, 384, .inl fd)), (a3, .inl (k3, 384, .inl fb)), (a4, .inl (k4, 24, .inl (fun j => bI (dz j)))), (a5, .inl (k5, 24, .inl (fun j => bI (lq j))))] := hD
      refine lv_iload_n hx hb dX0_state_0 rfl (lv_at hl 1 rfl) ?_
      refine lv_tableIn (tgt := 54) hx hb dX0_state_1 (by decide) (by decide) rfl (by decide) ?_
      refine lv_aload_n hx hb dX0_state_54 rfl (lv_at hl 0 rfl) ?_
      refine va_get (ci := 0) (v := .int (nI lc)) (C := RX0) (T := TX0) (N := 10) hx hb hts (by decide +kernel) hown hK hP 0 rfl rfl 7 (by decide) (hts (.fieldLink RX0 33 "CommitLog" "latestCount" "I") (by decide +kernel)) (fun _ h9 => h9) rfl dX0_state_55 ?_
      exact hret _ _ _ _ _ hP hD hS (by first | rfl | exact dz_0 (by assumption) | exact dz_1 (by assumption)) dX0_state_58
end
section
/-! The class: commit and start. -/
theorem sh_mul {n s m : Nat} (hn : n ≤ 24) (hs : s ≤ m) : n * s ≤ 24 * m := Nat.mul_le_mul hn hs
theorem sh_div {n s m : Nat} (hn : n ≤ 24) (hs : s ≤ m) : n * s / m ≤ 24 := Nat.div_le_of_le_mul (by rw [Nat.mul_comm m 24]; exact Nat.mul_le_mul hn hs)
theorem tkS_le {cu cs : Nat} (h : cs < 1000) : tkS cu cs ≤ 1000 := by
  simp only [tkS]; split
  · omega
  · split <;> omega
set_option maxHeartbeats 4000000 in
set_option maxRecDepth 100000 in
theorem c0_commit_low (l : Launch) (D : va_G) (h0 a1 a2 a3 a4 a5 : Nat) (k1 k2 k3 k4 k5 : ClassId) (fw fd fb : Nat → Int32) (lq dz : Nat → Bool) (mk : Bool) (lc cu cs : Nat) (hcu : cu ≤ 1000) (hcs : cs < 1000) (h5 : tkS cu cs < 500) : ct_i l yX0_commit wsX0_commit ({ frames := 3, cells := 0, slots := 0, locals := 64 }) D vwCl (XT k1 k2 k3 k4 k5) [.ref h0] (XW h0 a1 a2 a3 a4 a5 k1 k2 k3 k4 k5 fw fd fb lq dz true mk lc cu cs) (XW h0 a1 a2 a3 a4 a5 k1 k2 k3 k4 k5 fw fd (lx fw dz (cnt dz 24 * tkS cu cs / 500) fb 24) (lqK dz (cnt dz 24 * tkS cu cs / 500) lq 24) (clr dz 24) false false (cnt dz 24) (cu - 1) cs) (bI false) := by
  have hs : (tkS cu cs) ≤ 1000 := tkS_le hcs
  have hc := cnt_le dz 24
  have hm1 := sh_mul hc hs
  have hm2 : (cnt dz 24) * ((tkS cu cs) - 500) ≤ 24 * 1000 := sh_mul hc (by omega)
  refine ct_i.of (cc := cX0_commit) (maxL := 2) (ty := .boolean) (by decide) rfl (Nat.le_of_ble_eq_true rfl) (nb_bI _) ?_
  intro p e s m args below meth c ls A Q hx hb hml hts hown hK hP hD hA hS hl hret
  have hown : s.vm.findClass RX0 = some m.cls := hown
  have hl : lv_has ls 2 [(0, .ref h0)] := hl
  have hP : va_P D vwCl [(h0, .inr (0, [.ref a1, .ref a2, .ref a3, .ref a4, .ref a5, .int 1, .int (bI mk), .int (nI lc), .int (nI cu), .int (nI cs)])), (a1, .inl (k1, 384, .inl fw)), (a2, .inl (k2, 384, .inl fd)), (a3, .inl (k3, 384, .inl fb)), (a4, .inl (k4, 24, .inl (fun j => bI (dz j)))), (a5, .inl (k5, 24, .inl (fun j => bI (lq j))))] s.heap := hP
  have hD : va_D A [(h0, .inr (0, [.ref a1, .ref a2, .ref a3, .ref a4, .ref a5, .int 1, .int (bI mk), .int (nI lc), .int (nI cu), .int (nI cs)])), (a1, .inl (k1, 384, .inl fw)), (a2, .inl (k2, 384, .inl fd)), (a3, .inl (k3, 384, .inl fb)), (a4, .inl (k4, 24, .inl (fun j => bI (dz j)))), (a5, .inl (k5, 24, .inl (fun j => bI (lq j))))] := hD
  refine lv_aload_n hx hb dX0_commit_0 rfl (lv_at hl 0 rfl) ?_
  refine va_get (ci := 0) (v := .int 1) (C := RX0) (T := TX0) (N := 10) hx hb hts (by decide +kernel) hown hK hP 0 rfl rfl 5 (by decide) (hts (.fieldLink RX0 26 "CommitLog" "powered" "Z") (by decide +kernel)) (fun _ h9 => h9) rfl dX0_commit_1 ?_
  refine lv_if_ne (tgt := 9) hx hb dX0_commit_4 (by decide) (fun c_1 => ?_) (fun c_1 => ?_)
  · -- T of pc 4
    refine lv_aload_n hx hb dX0_commit_9 rfl (lv_at hl 0 rfl) ?_
    refine ct_Vi (As := []) (rest := []) (wr := []) (wn := [(h0, .inr (0, [.ref a1, .ref a2, .ref a3, .ref a4, .ref a5, .int 1, .int (bI mk), .int (nI lc), .int (nI (cu - 1)), .int (nI cs)])), (a1, .inl (k1, 384, .inl fw)), (a2, .inl (k2, 384, .inl fd)), (a3, .inl (k3, 384, .inl fb)), (a4, .inl (k4, 24, .inl (fun j => bI (dz j)))), (a5, .inl (k5, 24, .inl (fun j => bI (lq j))))]) ⟨hx, hb, hml, hown, hts⟩ (c0_takeShare l D h0 a1 a2 a3 a4 a5 k1 k2 k3 k4 k5 fw fd fb lq dz true mk lc cu cs hcu) (cwV 0 hts gX0_commit_X0_takeShareOfThisCommit rfl rfl rfl (by decide +kernel) ⟨Nat.le_of_ble_eq_true rfl, Nat.le_of_ble_eq_true rfl⟩) hK hP hD hS hA [0, 1, 2, 3, 4, 5] [] [0, 1, 2, 3, 4] [0, 1, 2, 3, 4, 5] rfl rfl (by decide) rfl (by decide) (by decide) rfl (by decide) 0 rfl 0 rfl rfl hl.1 rfl (Nat.le_of_ble_eq_true rfl) dX0_commit_10 ⟨Nat.zero_le _, Nat.zero_le _⟩ (fun H locs hP hD hS => ?_)
    refine lv_istore_n (lv' := [(1, .int (nI (tkS cu cs))), (0, .ref h0)]) hx hb dX0_commit_13 rfl hl (by decide) rfl (fun ls hl => ?_)
    refine lv_aload_n hx hb dX0_commit_14 rfl (lv_at hl 1 rfl) ?_
    refine lv_aload_n hx hb dX0_commit_15 rfl (lv_at hl 1 rfl) ?_
    refine ct_Vi (As := []) (rest := [.ref h0]) (wr := []) (wn := [(h0, .inr (0, [.ref a1, .ref a2, .ref a3, .ref a4, .ref a5, .int 1, .int (bI mk), .int (nI lc), .int (nI (cu - 1)), .int (nI cs)])), (a1, .inl (k1, 384, .inl fw)), (a2, .inl (k2, 384, .inl fd)), (a3, .inl (k3, 384, .inl fb)), (a4, .inl (k4, 24, .inl (fun j => bI (dz j)))), (a5, .inl (k5, 24, .inl (fun j => bI (lq j))))]) ⟨hx, hb, hml, hown, hts⟩ (c0_countWritten l D h0 a1 a2 a3 a4 a5 k1 k2 k3 k4 k5 fw fd fb lq dz true mk lc (cu - 1) cs) (cwV 0 hts gX0_commit_X0_countWritten rfl rfl rfl (by decide +kernel) ⟨Nat.le_of_ble_eq_true rfl, Nat.le_of_ble_eq_true rfl⟩) hK hP hD hS hA [0, 1, 2, 3, 4, 5] [] [0, 1, 2, 3, 4] [0, 1, 2, 3, 4, 5] rfl rfl (by decide) rfl (by decide) (by decide) rfl (by decide) 0 rfl 0 rfl rfl hl.1 rfl (Nat.le_of_ble_eq_true rfl) dX0_commit_16 ⟨Nat.zero_le _, Nat.zero_le _⟩ (fun H locs hP hD hS => ?_)
    refine va_put (ci := 0) (v := .int (nI (cnt dz 24))) (ty := .int) (C := RX0) (T := TX0) (N := 10) hx hb hts (by decide +kernel) tyX0 tyX0_ok nmX0 hown hK hP hD hS 0 rfl rfl 7 (by decide) (hts (.fieldLink RX0 33 "CommitLog" "latestCount" "I") (by decide +kernel)) (fun _ h9 => h9) rfl (by decide +kernel) rfl rfl (Nat.le_of_ble_eq_true rfl) dX0_commit_19 (fun H locs hP hD hS => ?_)
    have hP : va_P D vwCl [(h0, .inr (0, [.ref a1, .ref a2, .ref a3, .ref a4, .ref a5, .int 1, .int (bI mk), .int (nI (cnt dz 24)), .int (nI (cu - 1)), .int (nI cs)])), (a1, .inl (k1, 384, .inl fw)), (a2, .inl (k2, 384, .inl fd)), (a3, .inl (k3, 384, .inl fb)), (a4, .inl (k4, 24, .inl (fun j => bI (dz j)))), (a5, .inl (k5, 24, .inl (fun j => bI (lq j))))] H := hP
    have hD : va_D _ [(h0, .inr (0, [.ref a1, .ref a2, .ref a3, .ref a4, .ref a5, .int 1, .int (bI mk), .int (nI (cnt dz 24)), .int (nI (cu - 1)), .int (nI cs)])), (a1, .inl (k1, 384, .inl fw)), (a2, .inl (k2, 384, .inl fd)), (a3, .inl (k3, 384, .inl fb)), (a4, .inl (k4, 24, .inl (fun j => bI (dz j)))), (a5, .inl (k5, 24, .inl (fun j => bI (lq j))))] := hD
    refine lv_aload_n hx hb dX0_commit_22 rfl (lv_at hl 1 rfl) ?_
    refine lv_iload_n hx hb dX0_commit_23 rfl (lv_at hl 0 rfl) ?_
    refine lv_sipush (v := 500) hx hb dX0_commit_24 (by decide) ?_
    refine lv_icmp_lt (tgt := 34) hx hb dX0_commit_27 (by decide) (fun c_2 => ?_) (fun c_2 => ?_)
    · -- T of pc 27
      refine lv_iconst (v := 0) hx hb dX0_commit_34 (by decide) ?_
      refine va_put (ci := 0) (v := .int 0) (ty := .boolean) (C := RX0) (T := TX0) (N := 10) hx hb hts (by decide +kernel) tyX0 tyX0_ok nmX0 hown hK hP hD hS 0 rfl rfl 6 (by decide) (hts (.fieldLink RX0 30 "CommitLog" "marked" "Z") (by decide +kernel)) (fun _ h9 => h9) rfl (by decide +kernel) rfl rfl (Nat.le_of_ble_eq_true rfl) dX0_commit_35 (fun H locs hP hD hS => ?_)
      have hP : va_P D vwCl [(h0, .inr (0, [.ref a1, .ref a2, .ref a3, .ref a4, .ref a5, .int 1, .int 0, .int (nI (cnt dz 24)), .int (nI (cu - 1)), .int (nI cs)])), (a1, .inl (k1, 384, .inl fw)), (a2, .inl (k2, 384, .inl fd)), (a3, .inl (k3, 384, .inl fb)), (a4, .inl (k4, 24, .inl (fun j => bI (dz j)))), (a5, .inl (k5, 24, .inl (fun j => bI (lq j))))] H := hP
      have hD : va_D _ [(h0, .inr (0, [.ref a1, .ref a2, .ref a3, .ref a4, .ref a5, .int 1, .int 0, .int (nI (cnt dz 24)), .int (nI (cu - 1)), .int (nI cs)])), (a1, .inl (k1, 384, .inl fw)), (a2, .inl (k2, 384, .inl fd)), (a3, .inl (k3, 384, .inl fb)), (a4, .inl (k4, 24, .inl (fun j => bI (dz j)))), (a5, .inl (k5, 24, .inl (fun j => bI (lq j))))] := hD
      refine lv_aload_n hx hb dX0_commit_38 rfl (lv_at hl 1 rfl) ?_
      refine lv_aload_n hx hb dX0_commit_39 rfl (lv_at hl 1 rfl) ?_
      refine va_get (ci := 0) (v := .int 0) (C := RX0) (T := TX0) (N := 10) hx hb hts (by decide +kernel) hown hK hP 0 rfl rfl 6 (by decide) (hts (.fieldLink RX0 30 "CommitLog" "marked" "Z") (by decide +kernel)) (fun _ h9 => h9) rfl dX0_commit_40 ?_
      refine lv_if_eq (tgt := 53) hx hb dX0_commit_43 (by decide) (fun c_3 => ?_) (fun c_3 => ?_)
      · -- T of pc 43
        refine lv_aload_n hx hb dX0_commit_53 rfl (lv_at hl 1 rfl) ?_
        refine va_get (ci := 0) (v := .int (nI (cnt dz 24))) (C := RX0) (T := TX0) (N := 10) hx hb hts (by decide +kernel) hown hK hP 0 rfl rfl 7 (by decide) (hts (.fieldLink RX0 33 "CommitLog" "latestCount" "I") (by decide +kernel)) (fun _ h9 => h9) rfl dX0_commit_54 ?_
        refine lv_iload_n hx hb dX0_commit_57 rfl (lv_at hl 0 rfl) ?_
        refine lv_imul hx hb dX0_commit_58 ?_
        refine tp_as (z := nI ((cnt dz 24) * (tkS cu cs))) (pk_mul _ _) ?_
        refine lv_sipush (v := 500) hx hb dX0_commit_59 (by decide) ?_
        refine lv_idiv hx hb dX0_commit_62 (by decide) ?_
        refine tp_as (z := nI ((cnt dz 24) * (tkS cu cs) / 500)) (pk_div (d := 500) (by omega) (by decide) (by decide)) ?_
        refine ct_Vv (As := [.int (nI ((cnt dz 24) * (tkS cu cs) / 500))]) (rest := []) (wr := []) (wn := [(h0, .inr (0, [.ref a1, .ref a2, .ref a3, .ref a4, .ref a5, .int 1, .int 0, .int (nI (cnt dz 24)), .int (nI (cu - 1)), .int (nI cs)])), (a1, .inl (k1, 384, .inl fw)), (a2, .inl (k2, 384, .inl fd)), (a3, .inl (k3, 384, .inl (lx fw dz (cnt dz 24 * tkS cu cs / 500) fb 24))), (a4, .inl (k4, 24, .inl (fun j => bI (dz j)))), (a5, .inl (k5, 24, .inl (fun j => bI ((lqK dz (cnt dz 24 * tkS cu cs / 500) lq 24) j))))]) ⟨hx, hb, hml, hown, hts⟩ (c0_bringToLog l D h0 a1 a2 a3 a4 a5 k1 k2 k3 k4 k5 fw fd fb lq dz true false (cnt dz 24) (cu - 1) cs (cnt dz 24 * tkS cu cs / 500) (sh_div hc (Nat.le_of_lt h5))) (cwV 1 hts gX0_commit_X0_bringToLog rfl rfl rfl (by decide +kernel) ⟨Nat.le_of_ble_eq_true rfl, Nat.le_of_ble_eq_true rfl⟩) hK hP hD hS hA [0, 1, 2, 3, 4, 5] [] [0, 1, 2, 3, 4] [0, 1, 2, 3, 4, 5] rfl rfl (by decide) rfl (by decide) (by decide) rfl (by decide) 0 rfl 0 rfl rfl hl.1 rfl (Nat.le_of_ble_eq_true rfl) dX0_commit_63 ⟨Nat.zero_le _, Nat.zero_le _⟩ (fun H locs hP hD hS => ?_)
        refine lv_aload_n hx hb dX0_commit_66 rfl (lv_at hl 1 rfl) ?_
        refine ct_Vv (As := []) (rest := []) (wr := []) (wn := [(h0, .inr (0, [.ref a1, .ref a2, .ref a3, .ref a4, .ref a5, .int 1, .int 0, .int (nI (cnt dz 24)), .int (nI (cu - 1)), .int (nI cs)])), (a1, .inl (k1, 384, .inl fw)), (a2, .inl (k2, 384, .inl fd)), (a3, .inl (k3, 384, .inl (lx fw dz (cnt dz 24 * tkS cu cs / 500) fb 24))), (a4, .inl (k4, 24, .inl (fun j => bI ((clr dz 24) j)))), (a5, .inl (k5, 24, .inl (fun j => bI ((lqK dz (cnt dz 24 * tkS cu cs / 500) lq 24) j))))]) ⟨hx, hb, hml, hown, hts⟩ (c0_clearWritten l D h0 a1 a2 a3 a4 a5 k1 k2 k3 k4 k5 fw fd (lx fw dz (cnt dz 24 * tkS cu cs / 500) fb 24) (lqK dz (cnt dz 24 * tkS cu cs / 500) lq 24) dz true false (cnt dz 24) (cu - 1) cs) (cwV 0 hts gX0_commit_X0_clearWritten rfl rfl rfl (by decide +kernel) ⟨Nat.le_of_ble_eq_true rfl, Nat.le_of_ble_eq_true rfl⟩) hK hP hD hS hA [0, 1, 2, 3, 4, 5] [] [0, 1, 2, 3, 4] [0, 1, 2, 3, 4, 5] rfl rfl (by decide) rfl (by decide) (by decide) rfl (by decide) 0 rfl 0 rfl rfl hl.1 rfl (Nat.le_of_ble_eq_true rfl) dX0_commit_67 ⟨Nat.zero_le _, Nat.zero_le _⟩ (fun H locs hP hD hS => ?_)
        refine lv_aload_n hx hb dX0_commit_70 rfl (lv_at hl 1 rfl) ?_
        refine va_get (ci := 0) (v := .int 0) (C := RX0) (T := TX0) (N := 10) hx hb hts (by decide +kernel) hown hK hP 0 rfl rfl 6 (by decide) (hts (.fieldLink RX0 30 "CommitLog" "marked" "Z") (by decide +kernel)) (fun _ h9 => h9) rfl dX0_commit_71 ?_
        refine lv_if_eq (tgt := 95) hx hb dX0_commit_74 (by decide) (fun c_4 => ?_) (fun c_4 => ?_)
        · -- T of pc 74
          refine lv_aload_n hx hb dX0_commit_95 rfl (lv_at hl 1 rfl) ?_
          refine lv_iload_n hx hb dX0_commit_96 rfl (lv_at hl 0 rfl) ?_
          refine lv_sipush (v := 1000) hx hb dX0_commit_97 (by decide) ?_
          refine lv_icmp_ne (tgt := 107) hx hb dX0_commit_100 (by decide) (fun c_5 => ?_) (fun c_5 => ?_)
          · -- T of pc 100
            refine lv_iconst (v := 0) hx hb dX0_commit_107 (by decide) ?_
            refine va_put (ci := 0) (v := .int 0) (ty := .boolean) (C := RX0) (T := TX0) (N := 10) hx hb hts (by decide +kernel) tyX0 tyX0_ok nmX0 hown hK hP hD hS 0 rfl rfl 5 (by decide) (hts (.fieldLink RX0 26 "CommitLog" "powered" "Z") (by decide +kernel)) (fun _ h9 => h9) rfl (by decide +kernel) rfl rfl (Nat.le_of_ble_eq_true rfl) dX0_commit_108 (fun H locs hP hD hS => ?_)
            have hP : va_P D vwCl [(h0, .inr (0, [.ref a1, .ref a2, .ref a3, .ref a4, .ref a5, .int 0, .int 0, .int (nI (cnt dz 24)), .int (nI (cu - 1)), .int (nI cs)])), (a1, .inl (k1, 384, .inl fw)), (a2, .inl (k2, 384, .inl fd)), (a3, .inl (k3, 384, .inl (lx fw dz (cnt dz 24 * tkS cu cs / 500) fb 24))), (a4, .inl (k4, 24, .inl (fun j => bI ((clr dz 24) j)))), (a5, .inl (k5, 24, .inl (fun j => bI ((lqK dz (cnt dz 24 * tkS cu cs / 500) lq 24) j))))] H := hP
            have hD : va_D _ [(h0, .inr (0, [.ref a1, .ref a2, .ref a3, .ref a4, .ref a5, .int 0, .int 0, .int (nI (cnt dz 24)), .int (nI (cu - 1)), .int (nI cs)])), (a1, .inl (k1, 384, .inl fw)), (a2, .inl (k2, 384, .inl fd)), (a3, .inl (k3, 384, .inl (lx fw dz (cnt dz 24 * tkS cu cs / 500) fb 24))), (a4, .inl (k4, 24, .inl (fun j => bI ((clr dz 24) j)))), (a5, .inl (k5, 24, .inl (fun j => bI ((lqK dz (cnt dz 24 * tkS cu cs / 500) lq 24) j))))] := hD
            refine lv_aload_n hx hb dX0_commit_111 rfl (lv_at hl 1 rfl) ?_
            refine va_get (ci := 0) (v := .int 0) (C := RX0) (T := TX0) (N := 10) hx hb hts (by decide +kernel) hown hK hP 0 rfl rfl 5 (by decide) (hts (.fieldLink RX0 26 "CommitLog" "powered" "Z") (by decide +kernel)) (fun _ h9 => h9) rfl dX0_commit_112 ?_
            refine lv_if_eq (tgt := 123) hx hb dX0_commit_115 (by decide) (fun c_6 => ?_) (fun c_6 => ?_)
            · -- T of pc 115
              refine lv_aload_n hx hb dX0_commit_123 rfl (lv_at hl 1 rfl) ?_
              refine va_get (ci := 0) (v := .int 0) (C := RX0) (T := TX0) (N := 10) hx hb hts (by decide +kernel) hown hK hP 0 rfl rfl 5 (by decide) (hts (.fieldLink RX0 26 "CommitLog" "powered" "Z") (by decide +kernel)) (fun _ h9 => h9) rfl dX0_commit_124 ?_
              exact hret _ _ _ _ _ hP hD hS rfl dX0_commit_127
            · -- F of pc 115
              exact absurd (by decide) c_6
          · -- F of pc 100
            exact absurd ((nI_eq (b := 1000) (by omega) (by decide)).mp c_5) (by omega)
        · -- F of pc 74
          exact absurd (by decide) c_4
      · -- F of pc 43
        exact absurd (by decide) c_3
    · -- F of pc 27
      exact absurd (show nI (tkS cu cs) < nI 500 from nI_lt h5 (by decide)) c_2
  · -- F of pc 4
    exact absurd c_1 (by decide)
set_option maxHeartbeats 4000000 in
set_option maxRecDepth 100000 in
theorem c0_commit_mid (l : Launch) (D : va_G) (h0 a1 a2 a3 a4 a5 : Nat) (k1 k2 k3 k4 k5 : ClassId) (fw fd fb : Nat → Int32) (lq dz : Nat → Bool) (mk : Bool) (lc cu cs : Nat) (hcu : cu ≤ 1000) (hcs : cs < 1000) (h5 : 500 ≤ tkS cu cs) (h6 : tkS cu cs < 1000) : ct_i l yX0_commit wsX0_commit ({ frames := 3, cells := 0, slots := 0, locals := 64 }) D vwCl (XT k1 k2 k3 k4 k5) [.ref h0] (XW h0 a1 a2 a3 a4 a5 k1 k2 k3 k4 k5 fw fd fb lq dz true mk lc cu cs) (XW h0 a1 a2 a3 a4 a5 k1 k2 k3 k4 k5 fw (lx (lx fw dz (cnt dz 24) fb 24) (lqK dz (cnt dz 24) lq 24) ((cnt dz 24) * ((tkS cu cs) - 500) / 500) fd 24) (lx fw dz (cnt dz 24) fb 24) (lqK dz (cnt dz 24) lq 24) (clr dz 24) false true (cnt dz 24) (cu - 1) cs) (bI false) := by
  have hs : (tkS cu cs) ≤ 1000 := tkS_le hcs
  have hc := cnt_le dz 24
  have hm1 := sh_mul hc hs
  have hm2 : (cnt dz 24) * ((tkS cu cs) - 500) ≤ 24 * 1000 := sh_mul hc (by omega)
  refine ct_i.of (cc := cX0_commit) (maxL := 2) (ty := .boolean) (by decide) rfl (Nat.le_of_ble_eq_true rfl) (nb_bI _) ?_
  intro p e s m args below meth c ls A Q hx hb hml hts hown hK hP hD hA hS hl hret
  have hown : s.vm.findClass RX0 = some m.cls := hown
  have hl : lv_has ls 2 [(0, .ref h0)] := hl
  have hP : va_P D vwCl [(h0, .inr (0, [.ref a1, .ref a2, .ref a3, .ref a4, .ref a5, .int 1, .int (bI mk), .int (nI lc), .int (nI cu), .int (nI cs)])), (a1, .inl (k1, 384, .inl fw)), (a2, .inl (k2, 384, .inl fd)), (a3, .inl (k3, 384, .inl fb)), (a4, .inl (k4, 24, .inl (fun j => bI (dz j)))), (a5, .inl (k5, 24, .inl (fun j => bI (lq j))))] s.heap := hP
  have hD : va_D A [(h0, .inr (0, [.ref a1, .ref a2, .ref a3, .ref a4, .ref a5, .int 1, .int (bI mk), .int (nI lc), .int (nI cu), .int (nI cs)])), (a1, .inl (k1, 384, .inl fw)), (a2, .inl (k2, 384, .inl fd)), (a3, .inl (k3, 384, .inl fb)), (a4, .inl (k4, 24, .inl (fun j => bI (dz j)))), (a5, .inl (k5, 24, .inl (fun j => bI (lq j))))] := hD
  refine lv_aload_n hx hb dX0_commit_0 rfl (lv_at hl 0 rfl) ?_
  refine va_get (ci := 0) (v := .int 1) (C := RX0) (T := TX0) (N := 10) hx hb hts (by decide +kernel) hown hK hP 0 rfl rfl 5 (by decide) (hts (.fieldLink RX0 26 "CommitLog" "powered" "Z") (by decide +kernel)) (fun _ h9 => h9) rfl dX0_commit_1 ?_
  refine lv_if_ne (tgt := 9) hx hb dX0_commit_4 (by decide) (fun c_1 => ?_) (fun c_1 => ?_)
  · -- T of pc 4
    refine lv_aload_n hx hb dX0_commit_9 rfl (lv_at hl 0 rfl) ?_
    refine ct_Vi (As := []) (rest := []) (wr := []) (wn := [(h0, .inr (0, [.ref a1, .ref a2, .ref a3, .ref a4, .ref a5, .int 1, .int (bI mk), .int (nI lc), .int (nI (cu - 1)), .int (nI cs)])), (a1, .inl (k1, 384, .inl fw)), (a2, .inl (k2, 384, .inl fd)), (a3, .inl (k3, 384, .inl fb)), (a4, .inl (k4, 24, .inl (fun j => bI (dz j)))), (a5, .inl (k5, 24, .inl (fun j => bI (lq j))))]) ⟨hx, hb, hml, hown, hts⟩ (c0_takeShare l D h0 a1 a2 a3 a4 a5 k1 k2 k3 k4 k5 fw fd fb lq dz true mk lc cu cs hcu) (cwV 0 hts gX0_commit_X0_takeShareOfThisCommit rfl rfl rfl (by decide +kernel) ⟨Nat.le_of_ble_eq_true rfl, Nat.le_of_ble_eq_true rfl⟩) hK hP hD hS hA [0, 1, 2, 3, 4, 5] [] [0, 1, 2, 3, 4] [0, 1, 2, 3, 4, 5] rfl rfl (by decide) rfl (by decide) (by decide) rfl (by decide) 0 rfl 0 rfl rfl hl.1 rfl (Nat.le_of_ble_eq_true rfl) dX0_commit_10 ⟨Nat.zero_le _, Nat.zero_le _⟩ (fun H locs hP hD hS => ?_)
    refine lv_istore_n (lv' := [(1, .int (nI (tkS cu cs))), (0, .ref h0)]) hx hb dX0_commit_13 rfl hl (by decide) rfl (fun ls hl => ?_)
    refine lv_aload_n hx hb dX0_commit_14 rfl (lv_at hl 1 rfl) ?_
    refine lv_aload_n hx hb dX0_commit_15 rfl (lv_at hl 1 rfl) ?_
    refine ct_Vi (As := []) (rest := [.ref h0]) (wr := []) (wn := [(h0, .inr (0, [.ref a1, .ref a2, .ref a3, .ref a4, .ref a5, .int 1, .int (bI mk), .int (nI lc), .int (nI (cu - 1)), .int (nI cs)])), (a1, .inl (k1, 384, .inl fw)), (a2, .inl (k2, 384, .inl fd)), (a3, .inl (k3, 384, .inl fb)), (a4, .inl (k4, 24, .inl (fun j => bI (dz j)))), (a5, .inl (k5, 24, .inl (fun j => bI (lq j))))]) ⟨hx, hb, hml, hown, hts⟩ (c0_countWritten l D h0 a1 a2 a3 a4 a5 k1 k2 k3 k4 k5 fw fd fb lq dz true mk lc (cu - 1) cs) (cwV 0 hts gX0_commit_X0_countWritten rfl rfl rfl (by decide +kernel) ⟨Nat.le_of_ble_eq_true rfl, Nat.le_of_ble_eq_true rfl⟩) hK hP hD hS hA [0, 1, 2, 3, 4, 5] [] [0, 1, 2, 3, 4] [0, 1, 2, 3, 4, 5] rfl rfl (by decide) rfl (by decide) (by decide) rfl (by decide) 0 rfl 0 rfl rfl hl.1 rfl (Nat.le_of_ble_eq_true rfl) dX0_commit_16 ⟨Nat.zero_le _, Nat.zero_le _⟩ (fun H locs hP hD hS => ?_)
    refine va_put (ci := 0) (v := .int (nI (cnt dz 24))) (ty := .int) (C := RX0) (T := TX0) (N := 10) hx hb hts (by decide +kernel) tyX0 tyX0_ok nmX0 hown hK hP hD hS 0 rfl rfl 7 (by decide) (hts (.fieldLink RX0 33 "CommitLog" "latestCount" "I") (by decide +kernel)) (fun _ h9 => h9) rfl (by decide +kernel) rfl rfl (Nat.le_of_ble_eq_true rfl) dX0_commit_19 (fun H locs hP hD hS => ?_)
    have hP : va_P D vwCl [(h0, .inr (0, [.ref a1, .ref a2, .ref a3, .ref a4, .ref a5, .int 1, .int (bI mk), .int (nI (cnt dz 24)), .int (nI (cu - 1)), .int (nI cs)])), (a1, .inl (k1, 384, .inl fw)), (a2, .inl (k2, 384, .inl fd)), (a3, .inl (k3, 384, .inl fb)), (a4, .inl (k4, 24, .inl (fun j => bI (dz j)))), (a5, .inl (k5, 24, .inl (fun j => bI (lq j))))] H := hP
    have hD : va_D _ [(h0, .inr (0, [.ref a1, .ref a2, .ref a3, .ref a4, .ref a5, .int 1, .int (bI mk), .int (nI (cnt dz 24)), .int (nI (cu - 1)), .int (nI cs)])), (a1, .inl (k1, 384, .inl fw)), (a2, .inl (k2, 384, .inl fd)), (a3, .inl (k3, 384, .inl fb)), (a4, .inl (k4, 24, .inl (fun j => bI (dz j)))), (a5, .inl (k5, 24, .inl (fun j => bI (lq j))))] := hD
    refine lv_aload_n hx hb dX0_commit_22 rfl (lv_at hl 1 rfl) ?_
    refine lv_iload_n hx hb dX0_commit_23 rfl (lv_at hl 0 rfl) ?_
    refine lv_sipush (v := 500) hx hb dX0_commit_24 (by decide) ?_
    refine lv_icmp_lt (tgt := 34) hx hb dX0_commit_27 (by decide) (fun c_2 => ?_) (fun c_2 => ?_)
    · -- T of pc 27
      exact absurd c_2 (show ¬ nI (tkS cu cs) < nI 500 from nI_nlt h5 (by omega))
    · -- F of pc 27
      refine lv_iconst (v := 1) hx hb dX0_commit_30 (by decide) ?_
      refine lv_goto (tgt := 35) hx hb dX0_commit_31 (by decide) ?_
      refine va_put (ci := 0) (v := .int 1) (ty := .boolean) (C := RX0) (T := TX0) (N := 10) hx hb hts (by decide +kernel) tyX0 tyX0_ok nmX0 hown hK hP hD hS 0 rfl rfl 6 (by decide) (hts (.fieldLink RX0 30 "CommitLog" "marked" "Z") (by decide +kernel)) (fun _ h9 => h9) rfl (by decide +kernel) rfl rfl (Nat.le_of_ble_eq_true rfl) dX0_commit_35 (fun H locs hP hD hS => ?_)
      have hP : va_P D vwCl [(h0, .inr (0, [.ref a1, .ref a2, .ref a3, .ref a4, .ref a5, .int 1, .int 1, .int (nI (cnt dz 24)), .int (nI (cu - 1)), .int (nI cs)])), (a1, .inl (k1, 384, .inl fw)), (a2, .inl (k2, 384, .inl fd)), (a3, .inl (k3, 384, .inl fb)), (a4, .inl (k4, 24, .inl (fun j => bI (dz j)))), (a5, .inl (k5, 24, .inl (fun j => bI (lq j))))] H := hP
      have hD : va_D _ [(h0, .inr (0, [.ref a1, .ref a2, .ref a3, .ref a4, .ref a5, .int 1, .int 1, .int (nI (cnt dz 24)), .int (nI (cu - 1)), .int (nI cs)])), (a1, .inl (k1, 384, .inl fw)), (a2, .inl (k2, 384, .inl fd)), (a3, .inl (k3, 384, .inl fb)), (a4, .inl (k4, 24, .inl (fun j => bI (dz j)))), (a5, .inl (k5, 24, .inl (fun j => bI (lq j))))] := hD
      refine lv_aload_n hx hb dX0_commit_38 rfl (lv_at hl 1 rfl) ?_
      refine lv_aload_n hx hb dX0_commit_39 rfl (lv_at hl 1 rfl) ?_
      refine va_get (ci := 0) (v := .int 1) (C := RX0) (T := TX0) (N := 10) hx hb hts (by decide +kernel) hown hK hP 0 rfl rfl 6 (by decide) (hts (.fieldLink RX0 30 "CommitLog" "marked" "Z") (by decide +kernel)) (fun _ h9 => h9) rfl dX0_commit_40 ?_
      refine lv_if_eq (tgt := 53) hx hb dX0_commit_43 (by decide) (fun c_3 => ?_) (fun c_3 => ?_)
      · -- T of pc 43
        exact absurd c_3 (by decide)
      · -- F of pc 43
        refine lv_aload_n hx hb dX0_commit_46 rfl (lv_at hl 1 rfl) ?_
        refine va_get (ci := 0) (v := .int (nI (cnt dz 24))) (C := RX0) (T := TX0) (N := 10) hx hb hts (by decide +kernel) hown hK hP 0 rfl rfl 7 (by decide) (hts (.fieldLink RX0 33 "CommitLog" "latestCount" "I") (by decide +kernel)) (fun _ h9 => h9) rfl dX0_commit_47 ?_
        refine lv_goto (tgt := 63) hx hb dX0_commit_50 (by decide) ?_
        refine ct_Vv (As := [.int (nI (cnt dz 24))]) (rest := []) (wr := []) (wn := [(h0, .inr (0, [.ref a1, .ref a2, .ref a3, .ref a4, .ref a5, .int 1, .int 1, .int (nI (cnt dz 24)), .int (nI (cu - 1)), .int (nI cs)])), (a1, .inl (k1, 384, .inl fw)), (a2, .inl (k2, 384, .inl fd)), (a3, .inl (k3, 384, .inl (lx fw dz (cnt dz 24) fb 24))), (a4, .inl (k4, 24, .inl (fun j => bI (dz j)))), (a5, .inl (k5, 24, .inl (fun j => bI ((lqK dz (cnt dz 24) lq 24) j))))]) ⟨hx, hb, hml, hown, hts⟩ (c0_bringToLog l D h0 a1 a2 a3 a4 a5 k1 k2 k3 k4 k5 fw fd fb lq dz true true (cnt dz 24) (cu - 1) cs (cnt dz 24) hc) (cwV 1 hts gX0_commit_X0_bringToLog rfl rfl rfl (by decide +kernel) ⟨Nat.le_of_ble_eq_true rfl, Nat.le_of_ble_eq_true rfl⟩) hK hP hD hS hA [0, 1, 2, 3, 4, 5] [] [0, 1, 2, 3, 4] [0, 1, 2, 3, 4, 5] rfl rfl (by decide) rfl (by decide) (by decide) rfl (by decide) 0 rfl 0 rfl rfl hl.1 rfl (Nat.le_of_ble_eq_true rfl) dX0_commit_63 ⟨Nat.zero_le _, Nat.zero_le _⟩ (fun H locs hP hD hS => ?_)
        refine lv_aload_n hx hb dX0_commit_66 rfl (lv_at hl 1 rfl) ?_
        refine ct_Vv (As := []) (rest := []) (wr := []) (wn := [(h0, .inr (0, [.ref a1, .ref a2, .ref a3, .ref a4, .ref a5, .int 1, .int 1, .int (nI (cnt dz 24)), .int (nI (cu - 1)), .int (nI cs)])), (a1, .inl (k1, 384, .inl fw)), (a2, .inl (k2, 384, .inl fd)), (a3, .inl (k3, 384, .inl (lx fw dz (cnt dz 24) fb 24))), (a4, .inl (k4, 24, .inl (fun j => bI ((clr dz 24) j)))), (a5, .inl (k5, 24, .inl (fun j => bI ((lqK dz (cnt dz 24) lq 24) j))))]) ⟨hx, hb, hml, hown, hts⟩ (c0_clearWritten l D h0 a1 a2 a3 a4 a5 k1 k2 k3 k4 k5 fw fd (lx fw dz (cnt dz 24) fb 24) (lqK dz (cnt dz 24) lq 24) dz true true (cnt dz 24) (cu - 1) cs) (cwV 0 hts gX0_commit_X0_clearWritten rfl rfl rfl (by decide +kernel) ⟨Nat.le_of_ble_eq_true rfl, Nat.le_of_ble_eq_true rfl⟩) hK hP hD hS hA [0, 1, 2, 3, 4, 5] [] [0, 1, 2, 3, 4] [0, 1, 2, 3, 4, 5] rfl rfl (by decide) rfl (by decide) (by decide) rfl (by decide) 0 rfl 0 rfl rfl hl.1 rfl (Nat.le_of_ble_eq_true rfl) dX0_commit_67 ⟨Nat.zero_le _, Nat.zero_le _⟩ (fun H locs hP hD hS => ?_)
        refine lv_aload_n hx hb dX0_commit_70 rfl (lv_at hl 1 rfl) ?_
        refine va_get (ci := 0) (v := .int 1) (C := RX0) (T := TX0) (N := 10) hx hb hts (by decide +kernel) hown hK hP 0 rfl rfl 6 (by decide) (hts (.fieldLink RX0 30 "CommitLog" "marked" "Z") (by decide +kernel)) (fun _ h9 => h9) rfl dX0_commit_71 ?_
        refine lv_if_eq (tgt := 95) hx hb dX0_commit_74 (by decide) (fun c_4 => ?_) (fun c_4 => ?_)
        · -- T of pc 74
          exact absurd c_4 (by decide)
        · -- F of pc 74
          refine lv_aload_n hx hb dX0_commit_77 rfl (lv_at hl 1 rfl) ?_
          refine lv_aload_n hx hb dX0_commit_78 rfl (lv_at hl 1 rfl) ?_
          refine va_get (ci := 0) (v := .int (nI (cnt dz 24))) (C := RX0) (T := TX0) (N := 10) hx hb hts (by decide +kernel) hown hK hP 0 rfl rfl 7 (by decide) (hts (.fieldLink RX0 33 "CommitLog" "latestCount" "I") (by decide +kernel)) (fun _ h9 => h9) rfl dX0_commit_79 ?_
          refine lv_iload_n hx hb dX0_commit_82 rfl (lv_at hl 0 rfl) ?_
          refine lv_sipush (v := 500) hx hb dX0_commit_83 (by decide) ?_
          refine lv_isub hx hb dX0_commit_86 ?_
          refine tp_as (z := nI ((tkS cu cs) - 500)) (pk_sub (b := 500) h5) ?_
          refine lv_imul hx hb dX0_commit_87 ?_
          refine tp_as (z := nI ((cnt dz 24) * ((tkS cu cs) - 500))) (pk_mul _ _) ?_
          refine lv_sipush (v := 500) hx hb dX0_commit_88 (by decide) ?_
          refine lv_idiv hx hb dX0_commit_91 (by decide) ?_
          refine tp_as (z := nI ((cnt dz 24) * ((tkS cu cs) - 500) / 500)) (pk_div (d := 500) (by omega) (by decide) (by decide)) ?_
          refine ct_Vv (As := [.int (nI ((cnt dz 24) * ((tkS cu cs) - 500) / 500))]) (rest := []) (wr := []) (wn := [(h0, .inr (0, [.ref a1, .ref a2, .ref a3, .ref a4, .ref a5, .int 1, .int 1, .int (nI (cnt dz 24)), .int (nI (cu - 1)), .int (nI cs)])), (a1, .inl (k1, 384, .inl fw)), (a2, .inl (k2, 384, .inl (lx (lx fw dz (cnt dz 24) fb 24) (lqK dz (cnt dz 24) lq 24) ((cnt dz 24) * ((tkS cu cs) - 500) / 500) fd 24))), (a3, .inl (k3, 384, .inl (lx fw dz (cnt dz 24) fb 24))), (a4, .inl (k4, 24, .inl (fun j => bI ((clr dz 24) j)))), (a5, .inl (k5, 24, .inl (fun j => bI ((lqK dz (cnt dz 24) lq 24) j))))]) ⟨hx, hb, hml, hown, hts⟩ (c0_bringLogToDisk l D h0 a1 a2 a3 a4 a5 k1 k2 k3 k4 k5 fw fd (lx fw dz (cnt dz 24) fb 24) (lqK dz (cnt dz 24) lq 24) (clr dz 24) true true (cnt dz 24) (cu - 1) cs ((cnt dz 24) * ((tkS cu cs) - 500) / 500) (sh_div hc (by omega))) (cwV 1 hts gX0_commit_X0_bringLogToDisk rfl rfl rfl (by decide +kernel) ⟨Nat.le_of_ble_eq_true rfl, Nat.le_of_ble_eq_true rfl⟩) hK hP hD hS hA [0, 1, 2, 3, 4, 5] [] [0, 1, 2, 3, 4] [0, 1, 2, 3, 4, 5] rfl rfl (by decide) rfl (by decide) (by decide) rfl (by decide) 0 rfl 0 rfl rfl hl.1 rfl (Nat.le_of_ble_eq_true rfl) dX0_commit_92 ⟨Nat.zero_le _, Nat.zero_le _⟩ (fun H locs hP hD hS => ?_)
          refine lv_aload_n hx hb dX0_commit_95 rfl (lv_at hl 1 rfl) ?_
          refine lv_iload_n hx hb dX0_commit_96 rfl (lv_at hl 0 rfl) ?_
          refine lv_sipush (v := 1000) hx hb dX0_commit_97 (by decide) ?_
          refine lv_icmp_ne (tgt := 107) hx hb dX0_commit_100 (by decide) (fun c_5 => ?_) (fun c_5 => ?_)
          · -- T of pc 100
            refine lv_iconst (v := 0) hx hb dX0_commit_107 (by decide) ?_
            refine va_put (ci := 0) (v := .int 0) (ty := .boolean) (C := RX0) (T := TX0) (N := 10) hx hb hts (by decide +kernel) tyX0 tyX0_ok nmX0 hown hK hP hD hS 0 rfl rfl 5 (by decide) (hts (.fieldLink RX0 26 "CommitLog" "powered" "Z") (by decide +kernel)) (fun _ h9 => h9) rfl (by decide +kernel) rfl rfl (Nat.le_of_ble_eq_true rfl) dX0_commit_108 (fun H locs hP hD hS => ?_)
            have hP : va_P D vwCl [(h0, .inr (0, [.ref a1, .ref a2, .ref a3, .ref a4, .ref a5, .int 0, .int 1, .int (nI (cnt dz 24)), .int (nI (cu - 1)), .int (nI cs)])), (a1, .inl (k1, 384, .inl fw)), (a2, .inl (k2, 384, .inl (lx (lx fw dz (cnt dz 24) fb 24) (lqK dz (cnt dz 24) lq 24) ((cnt dz 24) * ((tkS cu cs) - 500) / 500) fd 24))), (a3, .inl (k3, 384, .inl (lx fw dz (cnt dz 24) fb 24))), (a4, .inl (k4, 24, .inl (fun j => bI ((clr dz 24) j)))), (a5, .inl (k5, 24, .inl (fun j => bI ((lqK dz (cnt dz 24) lq 24) j))))] H := hP
            have hD : va_D _ [(h0, .inr (0, [.ref a1, .ref a2, .ref a3, .ref a4, .ref a5, .int 0, .int 1, .int (nI (cnt dz 24)), .int (nI (cu - 1)), .int (nI cs)])), (a1, .inl (k1, 384, .inl fw)), (a2, .inl (k2, 384, .inl (lx (lx fw dz (cnt dz 24) fb 24) (lqK dz (cnt dz 24) lq 24) ((cnt dz 24) * ((tkS cu cs) - 500) / 500) fd 24))), (a3, .inl (k3, 384, .inl (lx fw dz (cnt dz 24) fb 24))), (a4, .inl (k4, 24, .inl (fun j => bI ((clr dz 24) j)))), (a5, .inl (k5, 24, .inl (fun j => bI ((lqK dz (cnt dz 24) lq 24) j))))] := hD
            refine lv_aload_n hx hb dX0_commit_111 rfl (lv_at hl 1 rfl) ?_
            refine va_get (ci := 0) (v := .int 0) (C := RX0) (T := TX0) (N := 10) hx hb hts (by decide +kernel) hown hK hP 0 rfl rfl 5 (by decide) (hts (.fieldLink RX0 26 "CommitLog" "powered" "Z") (by decide +kernel)) (fun _ h9 => h9) rfl dX0_commit_112 ?_
            refine lv_if_eq (tgt := 123) hx hb dX0_commit_115 (by decide) (fun c_6 => ?_) (fun c_6 => ?_)
            · -- T of pc 115
              refine lv_aload_n hx hb dX0_commit_123 rfl (lv_at hl 1 rfl) ?_
              refine va_get (ci := 0) (v := .int 0) (C := RX0) (T := TX0) (N := 10) hx hb hts (by decide +kernel) hown hK hP 0 rfl rfl 5 (by decide) (hts (.fieldLink RX0 26 "CommitLog" "powered" "Z") (by decide +kernel)) (fun _ h9 => h9) rfl dX0_commit_124 ?_
              exact hret _ _ _ _ _ hP hD hS rfl dX0_commit_127
            · -- F of pc 115
              exact absurd (by decide) c_6
          · -- F of pc 100
            exact absurd ((nI_eq (b := 1000) (by omega) (by decide)).mp c_5) (by omega)
  · -- F of pc 4
    exact absurd c_1 (by decide)
set_option maxHeartbeats 4000000 in
set_option maxRecDepth 100000 in
theorem c0_commit_full (l : Launch) (D : va_G) (h0 a1 a2 a3 a4 a5 : Nat) (k1 k2 k3 k4 k5 : ClassId) (fw fd fb : Nat → Int32) (lq dz : Nat → Bool) (mk : Bool) (lc cu cs : Nat) (hcu : cu ≤ 1000) (hcs : cs < 1000) (h5 : 500 ≤ tkS cu cs) (h6 : tkS cu cs = 1000) : ct_i l yX0_commit wsX0_commit ({ frames := 3, cells := 0, slots := 0, locals := 64 }) D vwCl (XT k1 k2 k3 k4 k5) [.ref h0] (XW h0 a1 a2 a3 a4 a5 k1 k2 k3 k4 k5 fw fd fb lq dz true mk lc cu cs) (XW h0 a1 a2 a3 a4 a5 k1 k2 k3 k4 k5 fw (lx (lx fw dz (cnt dz 24) fb 24) (lqK dz (cnt dz 24) lq 24) ((cnt dz 24) * ((tkS cu cs) - 500) / 500) fd 24) (lx fw dz (cnt dz 24) fb 24) (lqK dz (cnt dz 24) lq 24) (clr dz 24) true false (cnt dz 24) (cu - 1) cs) (bI true) := by
  have hs : (tkS cu cs) ≤ 1000 := tkS_le hcs
  have hc := cnt_le dz 24
  have hm1 := sh_mul hc hs
  have hm2 : (cnt dz 24) * ((tkS cu cs) - 500) ≤ 24 * 1000 := sh_mul hc (by omega)
  refine ct_i.of (cc := cX0_commit) (maxL := 2) (ty := .boolean) (by decide) rfl (Nat.le_of_ble_eq_true rfl) (nb_bI _) ?_
  intro p e s m args below meth c ls A Q hx hb hml hts hown hK hP hD hA hS hl hret
  have hown : s.vm.findClass RX0 = some m.cls := hown
  have hl : lv_has ls 2 [(0, .ref h0)] := hl
  have hP : va_P D vwCl [(h0, .inr (0, [.ref a1, .ref a2, .ref a3, .ref a4, .ref a5, .int 1, .int (bI mk), .int (nI lc), .int (nI cu), .int (nI cs)])), (a1, .inl (k1, 384, .inl fw)), (a2, .inl (k2, 384, .inl fd)), (a3, .inl (k3, 384, .inl fb)), (a4, .inl (k4, 24, .inl (fun j => bI (dz j)))), (a5, .inl (k5, 24, .inl (fun j => bI (lq j))))] s.heap := hP
  have hD : va_D A [(h0, .inr (0, [.ref a1, .ref a2, .ref a3, .ref a4, .ref a5, .int 1, .int (bI mk), .int (nI lc), .int (nI cu), .int (nI cs)])), (a1, .inl (k1, 384, .inl fw)), (a2, .inl (k2, 384, .inl fd)), (a3, .inl (k3, 384, .inl fb)), (a4, .inl (k4, 24, .inl (fun j => bI (dz j)))), (a5, .inl (k5, 24, .inl (fun j => bI (lq j))))] := hD
  refine lv_aload_n hx hb dX0_commit_0 rfl (lv_at hl 0 rfl) ?_
  refine va_get (ci := 0) (v := .int 1) (C := RX0) (T := TX0) (N := 10) hx hb hts (by decide +kernel) hown hK hP 0 rfl rfl 5 (by decide) (hts (.fieldLink RX0 26 "CommitLog" "powered" "Z") (by decide +kernel)) (fun _ h9 => h9) rfl dX0_commit_1 ?_
  refine lv_if_ne (tgt := 9) hx hb dX0_commit_4 (by decide) (fun c_1 => ?_) (fun c_1 => ?_)
  · -- T of pc 4
    refine lv_aload_n hx hb dX0_commit_9 rfl (lv_at hl 0 rfl) ?_
    refine ct_Vi (As := []) (rest := []) (wr := []) (wn := [(h0, .inr (0, [.ref a1, .ref a2, .ref a3, .ref a4, .ref a5, .int 1, .int (bI mk), .int (nI lc), .int (nI (cu - 1)), .int (nI cs)])), (a1, .inl (k1, 384, .inl fw)), (a2, .inl (k2, 384, .inl fd)), (a3, .inl (k3, 384, .inl fb)), (a4, .inl (k4, 24, .inl (fun j => bI (dz j)))), (a5, .inl (k5, 24, .inl (fun j => bI (lq j))))]) ⟨hx, hb, hml, hown, hts⟩ (c0_takeShare l D h0 a1 a2 a3 a4 a5 k1 k2 k3 k4 k5 fw fd fb lq dz true mk lc cu cs hcu) (cwV 0 hts gX0_commit_X0_takeShareOfThisCommit rfl rfl rfl (by decide +kernel) ⟨Nat.le_of_ble_eq_true rfl, Nat.le_of_ble_eq_true rfl⟩) hK hP hD hS hA [0, 1, 2, 3, 4, 5] [] [0, 1, 2, 3, 4] [0, 1, 2, 3, 4, 5] rfl rfl (by decide) rfl (by decide) (by decide) rfl (by decide) 0 rfl 0 rfl rfl hl.1 rfl (Nat.le_of_ble_eq_true rfl) dX0_commit_10 ⟨Nat.zero_le _, Nat.zero_le _⟩ (fun H locs hP hD hS => ?_)
    refine lv_istore_n (lv' := [(1, .int (nI (tkS cu cs))), (0, .ref h0)]) hx hb dX0_commit_13 rfl hl (by decide) rfl (fun ls hl => ?_)
    refine lv_aload_n hx hb dX0_commit_14 rfl (lv_at hl 1 rfl) ?_
    refine lv_aload_n hx hb dX0_commit_15 rfl (lv_at hl 1 rfl) ?_
    refine ct_Vi (As := []) (rest := [.ref h0]) (wr := []) (wn := [(h0, .inr (0, [.ref a1, .ref a2, .ref a3, .ref a4, .ref a5, .int 1, .int (bI mk), .int (nI lc), .int (nI (cu - 1)), .int (nI cs)])), (a1, .inl (k1, 384, .inl fw)), (a2, .inl (k2, 384, .inl fd)), (a3, .inl (k3, 384, .inl fb)), (a4, .inl (k4, 24, .inl (fun j => bI (dz j)))), (a5, .inl (k5, 24, .inl (fun j => bI (lq j))))]) ⟨hx, hb, hml, hown, hts⟩ (c0_countWritten l D h0 a1 a2 a3 a4 a5 k1 k2 k3 k4 k5 fw fd fb lq dz true mk lc (cu - 1) cs) (cwV 0 hts gX0_commit_X0_countWritten rfl rfl rfl (by decide +kernel) ⟨Nat.le_of_ble_eq_true rfl, Nat.le_of_ble_eq_true rfl⟩) hK hP hD hS hA [0, 1, 2, 3, 4, 5] [] [0, 1, 2, 3, 4] [0, 1, 2, 3, 4, 5] rfl rfl (by decide) rfl (by decide) (by decide) rfl (by decide) 0 rfl 0 rfl rfl hl.1 rfl (Nat.le_of_ble_eq_true rfl) dX0_commit_16 ⟨Nat.zero_le _, Nat.zero_le _⟩ (fun H locs hP hD hS => ?_)
    refine va_put (ci := 0) (v := .int (nI (cnt dz 24))) (ty := .int) (C := RX0) (T := TX0) (N := 10) hx hb hts (by decide +kernel) tyX0 tyX0_ok nmX0 hown hK hP hD hS 0 rfl rfl 7 (by decide) (hts (.fieldLink RX0 33 "CommitLog" "latestCount" "I") (by decide +kernel)) (fun _ h9 => h9) rfl (by decide +kernel) rfl rfl (Nat.le_of_ble_eq_true rfl) dX0_commit_19 (fun H locs hP hD hS => ?_)
    have hP : va_P D vwCl [(h0, .inr (0, [.ref a1, .ref a2, .ref a3, .ref a4, .ref a5, .int 1, .int (bI mk), .int (nI (cnt dz 24)), .int (nI (cu - 1)), .int (nI cs)])), (a1, .inl (k1, 384, .inl fw)), (a2, .inl (k2, 384, .inl fd)), (a3, .inl (k3, 384, .inl fb)), (a4, .inl (k4, 24, .inl (fun j => bI (dz j)))), (a5, .inl (k5, 24, .inl (fun j => bI (lq j))))] H := hP
    have hD : va_D _ [(h0, .inr (0, [.ref a1, .ref a2, .ref a3, .ref a4, .ref a5, .int 1, .int (bI mk), .int (nI (cnt dz 24)), .int (nI (cu - 1)), .int (nI cs)])), (a1, .inl (k1, 384, .inl fw)), (a2, .inl (k2, 384, .inl fd)), (a3, .inl (k3, 384, .inl fb)), (a4, .inl (k4, 24, .inl (fun j => bI (dz j)))), (a5, .inl (k5, 24, .inl (fun j => bI (lq j))))] := hD
    refine lv_aload_n hx hb dX0_commit_22 rfl (lv_at hl 1 rfl) ?_
    refine lv_iload_n hx hb dX0_commit_23 rfl (lv_at hl 0 rfl) ?_
    refine lv_sipush (v := 500) hx hb dX0_commit_24 (by decide) ?_
    refine lv_icmp_lt (tgt := 34) hx hb dX0_commit_27 (by decide) (fun c_2 => ?_) (fun c_2 => ?_)
    · -- T of pc 27
      exact absurd c_2 (show ¬ nI (tkS cu cs) < nI 500 from nI_nlt h5 (by omega))
    · -- F of pc 27
      refine lv_iconst (v := 1) hx hb dX0_commit_30 (by decide) ?_
      refine lv_goto (tgt := 35) hx hb dX0_commit_31 (by decide) ?_
      refine va_put (ci := 0) (v := .int 1) (ty := .boolean) (C := RX0) (T := TX0) (N := 10) hx hb hts (by decide +kernel) tyX0 tyX0_ok nmX0 hown hK hP hD hS 0 rfl rfl 6 (by decide) (hts (.fieldLink RX0 30 "CommitLog" "marked" "Z") (by decide +kernel)) (fun _ h9 => h9) rfl (by decide +kernel) rfl rfl (Nat.le_of_ble_eq_true rfl) dX0_commit_35 (fun H locs hP hD hS => ?_)
      have hP : va_P D vwCl [(h0, .inr (0, [.ref a1, .ref a2, .ref a3, .ref a4, .ref a5, .int 1, .int 1, .int (nI (cnt dz 24)), .int (nI (cu - 1)), .int (nI cs)])), (a1, .inl (k1, 384, .inl fw)), (a2, .inl (k2, 384, .inl fd)), (a3, .inl (k3, 384, .inl fb)), (a4, .inl (k4, 24, .inl (fun j => bI (dz j)))), (a5, .inl (k5, 24, .inl (fun j => bI (lq j))))] H := hP
      have hD : va_D _ [(h0, .inr (0, [.ref a1, .ref a2, .ref a3, .ref a4, .ref a5, .int 1, .int 1, .int (nI (cnt dz 24)), .int (nI (cu - 1)), .int (nI cs)])), (a1, .inl (k1, 384, .inl fw)), (a2, .inl (k2, 384, .inl fd)), (a3, .inl (k3, 384, .inl fb)), (a4, .inl (k4, 24, .inl (fun j => bI (dz j)))), (a5, .inl (k5, 24, .inl (fun j => bI (lq j))))] := hD
      refine lv_aload_n hx hb dX0_commit_38 rfl (lv_at hl 1 rfl) ?_
      refine lv_aload_n hx hb dX0_commit_39 rfl (lv_at hl 1 rfl) ?_
      refine va_get (ci := 0) (v := .int 1) (C := RX0) (T := TX0) (N := 10) hx hb hts (by decide +kernel) hown hK hP 0 rfl rfl 6 (by decide) (hts (.fieldLink RX0 30 "CommitLog" "marked" "Z") (by decide +kernel)) (fun _ h9 => h9) rfl dX0_commit_40 ?_
      refine lv_if_eq (tgt := 53) hx hb dX0_commit_43 (by decide) (fun c_3 => ?_) (fun c_3 => ?_)
      · -- T of pc 43
        exact absurd c_3 (by decide)
      · -- F of pc 43
        refine lv_aload_n hx hb dX0_commit_46 rfl (lv_at hl 1 rfl) ?_
        refine va_get (ci := 0) (v := .int (nI (cnt dz 24))) (C := RX0) (T := TX0) (N := 10) hx hb hts (by decide +kernel) hown hK hP 0 rfl rfl 7 (by decide) (hts (.fieldLink RX0 33 "CommitLog" "latestCount" "I") (by decide +kernel)) (fun _ h9 => h9) rfl dX0_commit_47 ?_
        refine lv_goto (tgt := 63) hx hb dX0_commit_50 (by decide) ?_
        refine ct_Vv (As := [.int (nI (cnt dz 24))]) (rest := []) (wr := []) (wn := [(h0, .inr (0, [.ref a1, .ref a2, .ref a3, .ref a4, .ref a5, .int 1, .int 1, .int (nI (cnt dz 24)), .int (nI (cu - 1)), .int (nI cs)])), (a1, .inl (k1, 384, .inl fw)), (a2, .inl (k2, 384, .inl fd)), (a3, .inl (k3, 384, .inl (lx fw dz (cnt dz 24) fb 24))), (a4, .inl (k4, 24, .inl (fun j => bI (dz j)))), (a5, .inl (k5, 24, .inl (fun j => bI ((lqK dz (cnt dz 24) lq 24) j))))]) ⟨hx, hb, hml, hown, hts⟩ (c0_bringToLog l D h0 a1 a2 a3 a4 a5 k1 k2 k3 k4 k5 fw fd fb lq dz true true (cnt dz 24) (cu - 1) cs (cnt dz 24) hc) (cwV 1 hts gX0_commit_X0_bringToLog rfl rfl rfl (by decide +kernel) ⟨Nat.le_of_ble_eq_true rfl, Nat.le_of_ble_eq_true rfl⟩) hK hP hD hS hA [0, 1, 2, 3, 4, 5] [] [0, 1, 2, 3, 4] [0, 1, 2, 3, 4, 5] rfl rfl (by decide) rfl (by decide) (by decide) rfl (by decide) 0 rfl 0 rfl rfl hl.1 rfl (Nat.le_of_ble_eq_true rfl) dX0_commit_63 ⟨Nat.zero_le _, Nat.zero_le _⟩ (fun H locs hP hD hS => ?_)
        refine lv_aload_n hx hb dX0_commit_66 rfl (lv_at hl 1 rfl) ?_
        refine ct_Vv (As := []) (rest := []) (wr := []) (wn := [(h0, .inr (0, [.ref a1, .ref a2, .ref a3, .ref a4, .ref a5, .int 1, .int 1, .int (nI (cnt dz 24)), .int (nI (cu - 1)), .int (nI cs)])), (a1, .inl (k1, 384, .inl fw)), (a2, .inl (k2, 384, .inl fd)), (a3, .inl (k3, 384, .inl (lx fw dz (cnt dz 24) fb 24))), (a4, .inl (k4, 24, .inl (fun j => bI ((clr dz 24) j)))), (a5, .inl (k5, 24, .inl (fun j => bI ((lqK dz (cnt dz 24) lq 24) j))))]) ⟨hx, hb, hml, hown, hts⟩ (c0_clearWritten l D h0 a1 a2 a3 a4 a5 k1 k2 k3 k4 k5 fw fd (lx fw dz (cnt dz 24) fb 24) (lqK dz (cnt dz 24) lq 24) dz true true (cnt dz 24) (cu - 1) cs) (cwV 0 hts gX0_commit_X0_clearWritten rfl rfl rfl (by decide +kernel) ⟨Nat.le_of_ble_eq_true rfl, Nat.le_of_ble_eq_true rfl⟩) hK hP hD hS hA [0, 1, 2, 3, 4, 5] [] [0, 1, 2, 3, 4] [0, 1, 2, 3, 4, 5] rfl rfl (by decide) rfl (by decide) (by decide) rfl (by decide) 0 rfl 0 rfl rfl hl.1 rfl (Nat.le_of_ble_eq_true rfl) dX0_commit_67 ⟨Nat.zero_le _, Nat.zero_le _⟩ (fun H locs hP hD hS => ?_)
        refine lv_aload_n hx hb dX0_commit_70 rfl (lv_at hl 1 rfl) ?_
        refine va_get (ci := 0) (v := .int 1) (C := RX0) (T := TX0) (N := 10) hx hb hts (by decide +kernel) hown hK hP 0 rfl rfl 6 (by decide) (hts (.fieldLink RX0 30 "CommitLog" "marked" "Z") (by decide +kernel)) (fun _ h9 => h9) rfl dX0_commit_71 ?_
        refine lv_if_eq (tgt := 95) hx hb dX0_commit_74 (by decide) (fun c_4 => ?_) (fun c_4 => ?_)
        · -- T of pc 74
          exact absurd c_4 (by decide)
        · -- F of pc 74
          refine lv_aload_n hx hb dX0_commit_77 rfl (lv_at hl 1 rfl) ?_
          refine lv_aload_n hx hb dX0_commit_78 rfl (lv_at hl 1 rfl) ?_
          refine va_get (ci := 0) (v := .int (nI (cnt dz 24))) (C := RX0) (T := TX0) (N := 10) hx hb hts (by decide +kernel) hown hK hP 0 rfl rfl 7 (by decide) (hts (.fieldLink RX0 33 "CommitLog" "latestCount" "I") (by decide +kernel)) (fun _ h9 => h9) rfl dX0_commit_79 ?_
          refine lv_iload_n hx hb dX0_commit_82 rfl (lv_at hl 0 rfl) ?_
          refine lv_sipush (v := 500) hx hb dX0_commit_83 (by decide) ?_
          refine lv_isub hx hb dX0_commit_86 ?_
          refine tp_as (z := nI ((tkS cu cs) - 500)) (pk_sub (b := 500) h5) ?_
          refine lv_imul hx hb dX0_commit_87 ?_
          refine tp_as (z := nI ((cnt dz 24) * ((tkS cu cs) - 500))) (pk_mul _ _) ?_
          refine lv_sipush (v := 500) hx hb dX0_commit_88 (by decide) ?_
          refine lv_idiv hx hb dX0_commit_91 (by decide) ?_
          refine tp_as (z := nI ((cnt dz 24) * ((tkS cu cs) - 500) / 500)) (pk_div (d := 500) (by omega) (by decide) (by decide)) ?_
          refine ct_Vv (As := [.int (nI ((cnt dz 24) * ((tkS cu cs) - 500) / 500))]) (rest := []) (wr := []) (wn := [(h0, .inr (0, [.ref a1, .ref a2, .ref a3, .ref a4, .ref a5, .int 1, .int 1, .int (nI (cnt dz 24)), .int (nI (cu - 1)), .int (nI cs)])), (a1, .inl (k1, 384, .inl fw)), (a2, .inl (k2, 384, .inl (lx (lx fw dz (cnt dz 24) fb 24) (lqK dz (cnt dz 24) lq 24) ((cnt dz 24) * ((tkS cu cs) - 500) / 500) fd 24))), (a3, .inl (k3, 384, .inl (lx fw dz (cnt dz 24) fb 24))), (a4, .inl (k4, 24, .inl (fun j => bI ((clr dz 24) j)))), (a5, .inl (k5, 24, .inl (fun j => bI ((lqK dz (cnt dz 24) lq 24) j))))]) ⟨hx, hb, hml, hown, hts⟩ (c0_bringLogToDisk l D h0 a1 a2 a3 a4 a5 k1 k2 k3 k4 k5 fw fd (lx fw dz (cnt dz 24) fb 24) (lqK dz (cnt dz 24) lq 24) (clr dz 24) true true (cnt dz 24) (cu - 1) cs ((cnt dz 24) * ((tkS cu cs) - 500) / 500) (sh_div hc (by omega))) (cwV 1 hts gX0_commit_X0_bringLogToDisk rfl rfl rfl (by decide +kernel) ⟨Nat.le_of_ble_eq_true rfl, Nat.le_of_ble_eq_true rfl⟩) hK hP hD hS hA [0, 1, 2, 3, 4, 5] [] [0, 1, 2, 3, 4] [0, 1, 2, 3, 4, 5] rfl rfl (by decide) rfl (by decide) (by decide) rfl (by decide) 0 rfl 0 rfl rfl hl.1 rfl (Nat.le_of_ble_eq_true rfl) dX0_commit_92 ⟨Nat.zero_le _, Nat.zero_le _⟩ (fun H locs hP hD hS => ?_)
          refine lv_aload_n hx hb dX0_commit_95 rfl (lv_at hl 1 rfl) ?_
          refine lv_iload_n hx hb dX0_commit_96 rfl (lv_at hl 0 rfl) ?_
          refine lv_sipush (v := 1000) hx hb dX0_commit_97 (by decide) ?_
          refine lv_icmp_ne (tgt := 107) hx hb dX0_commit_100 (by decide) (fun c_5 => ?_) (fun c_5 => ?_)
          · -- T of pc 100
            exact absurd (show nI (tkS cu cs) = nI 1000 by rw [h6]) c_5
          · -- F of pc 100
            refine lv_iconst (v := 1) hx hb dX0_commit_103 (by decide) ?_
            refine lv_goto (tgt := 108) hx hb dX0_commit_104 (by decide) ?_
            refine va_put (ci := 0) (v := .int 1) (ty := .boolean) (C := RX0) (T := TX0) (N := 10) hx hb hts (by decide +kernel) tyX0 tyX0_ok nmX0 hown hK hP hD hS 0 rfl rfl 5 (by decide) (hts (.fieldLink RX0 26 "CommitLog" "powered" "Z") (by decide +kernel)) (fun _ h9 => h9) rfl (by decide +kernel) rfl rfl (Nat.le_of_ble_eq_true rfl) dX0_commit_108 (fun H locs hP hD hS => ?_)
            have hP : va_P D vwCl [(h0, .inr (0, [.ref a1, .ref a2, .ref a3, .ref a4, .ref a5, .int 1, .int 1, .int (nI (cnt dz 24)), .int (nI (cu - 1)), .int (nI cs)])), (a1, .inl (k1, 384, .inl fw)), (a2, .inl (k2, 384, .inl (lx (lx fw dz (cnt dz 24) fb 24) (lqK dz (cnt dz 24) lq 24) ((cnt dz 24) * ((tkS cu cs) - 500) / 500) fd 24))), (a3, .inl (k3, 384, .inl (lx fw dz (cnt dz 24) fb 24))), (a4, .inl (k4, 24, .inl (fun j => bI ((clr dz 24) j)))), (a5, .inl (k5, 24, .inl (fun j => bI ((lqK dz (cnt dz 24) lq 24) j))))] H := hP
            have hD : va_D _ [(h0, .inr (0, [.ref a1, .ref a2, .ref a3, .ref a4, .ref a5, .int 1, .int 1, .int (nI (cnt dz 24)), .int (nI (cu - 1)), .int (nI cs)])), (a1, .inl (k1, 384, .inl fw)), (a2, .inl (k2, 384, .inl (lx (lx fw dz (cnt dz 24) fb 24) (lqK dz (cnt dz 24) lq 24) ((cnt dz 24) * ((tkS cu cs) - 500) / 500) fd 24))), (a3, .inl (k3, 384, .inl (lx fw dz (cnt dz 24) fb 24))), (a4, .inl (k4, 24, .inl (fun j => bI ((clr dz 24) j)))), (a5, .inl (k5, 24, .inl (fun j => bI ((lqK dz (cnt dz 24) lq 24) j))))] := hD
            refine lv_aload_n hx hb dX0_commit_111 rfl (lv_at hl 1 rfl) ?_
            refine va_get (ci := 0) (v := .int 1) (C := RX0) (T := TX0) (N := 10) hx hb hts (by decide +kernel) hown hK hP 0 rfl rfl 5 (by decide) (hts (.fieldLink RX0 26 "CommitLog" "powered" "Z") (by decide +kernel)) (fun _ h9 => h9) rfl dX0_commit_112 ?_
            refine lv_if_eq (tgt := 123) hx hb dX0_commit_115 (by decide) (fun c_6 => ?_) (fun c_6 => ?_)
            · -- T of pc 115
              exact absurd c_6 (by decide)
            · -- F of pc 115
              refine lv_aload_n hx hb dX0_commit_118 rfl (lv_at hl 1 rfl) ?_
              refine lv_iconst (v := 0) hx hb dX0_commit_119 (by decide) ?_
              refine va_put (ci := 0) (v := .int 0) (ty := .boolean) (C := RX0) (T := TX0) (N := 10) hx hb hts (by decide +kernel) tyX0 tyX0_ok nmX0 hown hK hP hD hS 0 rfl rfl 6 (by decide) (hts (.fieldLink RX0 30 "CommitLog" "marked" "Z") (by decide +kernel)) (fun _ h9 => h9) rfl (by decide +kernel) rfl rfl (Nat.le_of_ble_eq_true rfl) dX0_commit_120 (fun H locs hP hD hS => ?_)
              have hP : va_P D vwCl [(h0, .inr (0, [.ref a1, .ref a2, .ref a3, .ref a4, .ref a5, .int 1, .int 0, .int (nI (cnt dz 24)), .int (nI (cu - 1)), .int (nI cs)])), (a1, .inl (k1, 384, .inl fw)), (a2, .inl (k2, 384, .inl (lx (lx fw dz (cnt dz 24) fb 24) (lqK dz (cnt dz 24) lq 24) ((cnt dz 24) * ((tkS cu cs) - 500) / 500) fd 24))), (a3, .inl (k3, 384, .inl (lx fw dz (cnt dz 24) fb 24))), (a4, .inl (k4, 24, .inl (fun j => bI ((clr dz 24) j)))), (a5, .inl (k5, 24, .inl (fun j => bI ((lqK dz (cnt dz 24) lq 24) j))))] H := hP
              have hD : va_D _ [(h0, .inr (0, [.ref a1, .ref a2, .ref a3, .ref a4, .ref a5, .int 1, .int 0, .int (nI (cnt dz 24)), .int (nI (cu - 1)), .int (nI cs)])), (a1, .inl (k1, 384, .inl fw)), (a2, .inl (k2, 384, .inl (lx (lx fw dz (cnt dz 24) fb 24) (lqK dz (cnt dz 24) lq 24) ((cnt dz 24) * ((tkS cu cs) - 500) / 500) fd 24))), (a3, .inl (k3, 384, .inl (lx fw dz (cnt dz 24) fb 24))), (a4, .inl (k4, 24, .inl (fun j => bI ((clr dz 24) j)))), (a5, .inl (k5, 24, .inl (fun j => bI ((lqK dz (cnt dz 24) lq 24) j))))] := hD
              refine lv_aload_n hx hb dX0_commit_123 rfl (lv_at hl 1 rfl) ?_
              refine va_get (ci := 0) (v := .int 1) (C := RX0) (T := TX0) (N := 10) hx hb hts (by decide +kernel) hown hK hP 0 rfl rfl 5 (by decide) (hts (.fieldLink RX0 26 "CommitLog" "powered" "Z") (by decide +kernel)) (fun _ h9 => h9) rfl dX0_commit_124 ?_
              exact hret _ _ _ _ _ hP hD hS rfl dX0_commit_127
  · -- F of pc 4
    exact absurd c_1 (by decide)
set_option maxHeartbeats 4000000 in
set_option maxRecDepth 100000 in
theorem c0_commit_off (l : Launch) (D : va_G) (h0 a1 a2 a3 a4 a5 : Nat) (k1 k2 k3 k4 k5 : ClassId) (fw fd fb : Nat → Int32) (lq dz : Nat → Bool) (mk : Bool) (lc cu cs : Nat) : ct_i l yX0_commit wsX0_commit ({ frames := 3, cells := 0, slots := 0, locals := 64 }) D vwCl (XT k1 k2 k3 k4 k5) [.ref h0] (XW h0 a1 a2 a3 a4 a5 k1 k2 k3 k4 k5 fw fd fb lq dz false mk lc cu cs) (XW h0 a1 a2 a3 a4 a5 k1 k2 k3 k4 k5 fw fd fb lq dz false mk lc cu cs) (bI false) := by
  refine ct_i.of (cc := cX0_commit) (maxL := 2) (ty := .boolean) (by decide) rfl (Nat.le_of_ble_eq_true rfl) (nb_bI _) ?_
  intro p e s m args below meth c ls A Q hx hb hml hts hown hK hP hD hA hS hl hret
  have hown : s.vm.findClass RX0 = some m.cls := hown
  have hl : lv_has ls 2 [(0, .ref h0)] := hl
  have hP : va_P D vwCl [(h0, .inr (0, [.ref a1, .ref a2, .ref a3, .ref a4, .ref a5, .int 0, .int (bI mk), .int (nI lc), .int (nI cu), .int (nI cs)])), (a1, .inl (k1, 384, .inl fw)), (a2, .inl (k2, 384, .inl fd)), (a3, .inl (k3, 384, .inl fb)), (a4, .inl (k4, 24, .inl (fun j => bI (dz j)))), (a5, .inl (k5, 24, .inl (fun j => bI (lq j))))] s.heap := hP
  have hD : va_D A [(h0, .inr (0, [.ref a1, .ref a2, .ref a3, .ref a4, .ref a5, .int 0, .int (bI mk), .int (nI lc), .int (nI cu), .int (nI cs)])), (a1, .inl (k1, 384, .inl fw)), (a2, .inl (k2, 384, .inl fd)), (a3, .inl (k3, 384, .inl fb)), (a4, .inl (k4, 24, .inl (fun j => bI (dz j)))), (a5, .inl (k5, 24, .inl (fun j => bI (lq j))))] := hD
  refine lv_aload_n hx hb dX0_commit_0 rfl (lv_at hl 0 rfl) ?_
  refine va_get (ci := 0) (v := .int 0) (C := RX0) (T := TX0) (N := 10) hx hb hts (by decide +kernel) hown hK hP 0 rfl rfl 5 (by decide) (hts (.fieldLink RX0 26 "CommitLog" "powered" "Z") (by decide +kernel)) (fun _ h9 => h9) rfl dX0_commit_1 ?_
  refine lv_if_ne (tgt := 9) hx hb dX0_commit_4 (by decide) (fun c_1 => ?_) (fun c_1 => ?_)
  · -- T of pc 4
    exact absurd (by decide) c_1
  · -- F of pc 4
    refine lv_iconst (v := 0) hx hb dX0_commit_7 (by decide) ?_
    exact hret _ _ _ _ _ hP hD hS rfl dX0_commit_8
def xsd (mk : Bool) (fb : Nat → Int32) (lq : Nat → Bool) (fd : Nat → Int32) (lc t : Nat) : Nat → Int32 := bif mk then lx fb lq (lc * t / 1000) fd 24 else fd
theorem st_bad {t : Int32} (h1 : ¬ t < 0) (h2 : t ≤ 1000) : ¬ (t < 0 ∨ nI 1001 ≤ t) := by
  have e2 : (1000 : Int32).toInt = 1000 := rfl
  have e3 : (nI 1001).toInt = 1001 := rfl
  rw [Int32.le_iff_toInt_le] at h2
  rintro (h | h)
  · exact h1 h
  · rw [Int32.le_iff_toInt_le] at h; omega
set_option maxHeartbeats 4000000 in
set_option maxRecDepth 100000 in
theorem c0_start_no (l : Launch) (D : va_G) (h0 a1 a2 a3 a4 a5 : Nat) (k1 k2 k3 k4 k5 : ClassId) (fw fd fb : Nat → Int32) (lq dz : Nat → Bool) (pw mk : Bool) (lc cu cs : Nat) (x : Int32) (h : pw = true ∨ (x < 0 ∨ nI 1001 ≤ x)) : ct_i l yX0_start wsX0_start ({ frames := 3, cells := 0, slots := 0, locals := 64 }) D vwCl (XT k1 k2 k3 k4 k5) [.ref h0, .int x] (XW h0 a1 a2 a3 a4 a5 k1 k2 k3 k4 k5 fw fd fb lq dz pw mk lc cu cs) (XW h0 a1 a2 a3 a4 a5 k1 k2 k3 k4 k5 fw fd fb lq dz pw mk lc cu cs) (bI false) := by
  cases pw with
  | true =>
    refine ct_i.of (cc := cX0_start) (maxL := 2) (ty := .boolean) (by decide) rfl (Nat.le_of_ble_eq_true rfl) (nb_bI _) ?_
    intro p e s m args below meth c ls A Q hx hb hml hts hown hK hP hD hA hS hl hret
    have hown : s.vm.findClass RX0 = some m.cls := hown
    have hl : lv_has ls 2 [(0, .ref h0), (1, .int x)] := hl
    have hP : va_P D vwCl [(h0, .inr (0, [.ref a1, .ref a2, .ref a3, .ref a4, .ref a5, .int 1, .int (bI mk), .int (nI lc), .int (nI cu), .int (nI cs)])), (a1, .inl (k1, 384, .inl fw)), (a2, .inl (k2, 384, .inl fd)), (a3, .inl (k3, 384, .inl fb)), (a4, .inl (k4, 24, .inl (fun j => bI (dz j)))), (a5, .inl (k5, 24, .inl (fun j => bI (lq j))))] s.heap := hP
    have hD : va_D A [(h0, .inr (0, [.ref a1, .ref a2, .ref a3, .ref a4, .ref a5, .int 1, .int (bI mk), .int (nI lc), .int (nI cu), .int (nI cs)])), (a1, .inl (k1, 384, .inl fw)), (a2, .inl (k2, 384, .inl fd)), (a3, .inl (k3, 384, .inl fb)), (a4, .inl (k4, 24, .inl (fun j => bI (dz j)))), (a5, .inl (k5, 24, .inl (fun j => bI (lq j))))] := hD
    refine lv_aload_n hx hb dX0_start_0 rfl (lv_at hl 0 rfl) ?_
    refine va_get (ci := 0) (v := .int 1) (C := RX0) (T := TX0) (N := 10) hx hb hts (by decide +kernel) hown hK hP 0 rfl rfl 5 (by decide) (hts (.fieldLink RX0 26 "CommitLog" "powered" "Z") (by decide +kernel)) (fun _ h9 => h9) rfl dX0_start_1 ?_
    refine lv_if_ne (tgt := 18) hx hb dX0_start_4 (by decide) (fun c_1 => ?_) (fun c_1 => ?_)
    · -- T of pc 4
      refine lv_iconst (v := 0) hx hb dX0_start_18 (by decide) ?_
      exact hret _ _ _ _ _ hP hD hS rfl dX0_start_19
    · -- F of pc 4
      exact absurd c_1 (by decide)
  | false =>
    have h1 := h.resolve_left (by decide)
    refine ct_i.of (cc := cX0_start) (maxL := 2) (ty := .boolean) (by decide) rfl (Nat.le_of_ble_eq_true rfl) (nb_bI _) ?_
    intro p e s m args below meth c ls A Q hx hb hml hts hown hK hP hD hA hS hl hret
    have hown : s.vm.findClass RX0 = some m.cls := hown
    have hl : lv_has ls 2 [(0, .ref h0), (1, .int x)] := hl
    have hP : va_P D vwCl [(h0, .inr (0, [.ref a1, .ref a2, .ref a3, .ref a4, .ref a5, .int 0, .int (bI mk), .int (nI lc), .int (nI cu), .int (nI cs)])), (a1, .inl (k1, 384, .inl fw)), (a2, .inl (k2, 384, .inl fd)), (a3, .inl (k3, 384, .inl fb)), (a4, .inl (k4, 24, .inl (fun j => bI (dz j)))), (a5, .inl (k5, 24, .inl (fun j => bI (lq j))))] s.heap := hP
    have hD : va_D A [(h0, .inr (0, [.ref a1, .ref a2, .ref a3, .ref a4, .ref a5, .int 0, .int (bI mk), .int (nI lc), .int (nI cu), .int (nI cs)])), (a1, .inl (k1, 384, .inl fw)), (a2, .inl (k2, 384, .inl fd)), (a3, .inl (k3, 384, .inl fb)), (a4, .inl (k4, 24, .inl (fun j => bI (dz j)))), (a5, .inl (k5, 24, .inl (fun j => bI (lq j))))] := hD
    refine lv_aload_n hx hb dX0_start_0 rfl (lv_at hl 0 rfl) ?_
    refine va_get (ci := 0) (v := .int 0) (C := RX0) (T := TX0) (N := 10) hx hb hts (by decide +kernel) hown hK hP 0 rfl rfl 5 (by decide) (hts (.fieldLink RX0 26 "CommitLog" "powered" "Z") (by decide +kernel)) (fun _ h9 => h9) rfl dX0_start_1 ?_
    refine lv_if_ne (tgt := 18) hx hb dX0_start_4 (by decide) (fun c_1 => ?_) (fun c_1 => ?_)
    · -- T of pc 4
      exact absurd (by decide) c_1
    · -- F of pc 4
      refine lv_iload_n hx hb dX0_start_7 rfl (lv_at hl 1 rfl) ?_
      refine lv_if_lt (tgt := 18) hx hb dX0_start_8 (by decide) (fun c_2 => ?_) (fun c_2 => ?_)
      · -- T of pc 8
        refine lv_iconst (v := 0) hx hb dX0_start_18 (by decide) ?_
        exact hret _ _ _ _ _ hP hD hS rfl dX0_start_19
      · -- F of pc 8
        refine lv_iload_n hx hb dX0_start_11 rfl (lv_at hl 1 rfl) ?_
        refine lv_sipush (v := 1000) hx hb dX0_start_12 (by decide) ?_
        refine lv_icmp_le (tgt := 20) hx hb dX0_start_15 (by decide) (fun c_3 => ?_) (fun c_3 => ?_)
        · -- T of pc 15
          exact absurd h1 (st_bad c_2 c_3)
        · -- F of pc 15
          refine lv_iconst (v := 0) hx hb dX0_start_18 (by decide) ?_
          exact hret _ _ _ _ _ hP hD hS rfl dX0_start_19
set_option maxHeartbeats 4000000 in
set_option maxRecDepth 100000 in
theorem c0_start_cut (l : Launch) (D : va_G) (h0 a1 a2 a3 a4 a5 : Nat) (k1 k2 k3 k4 k5 : ClassId) (fw fd fb : Nat → Int32) (lq dz : Nat → Bool) (mk : Bool) (lc cu cs : Nat) (t : Nat) (ht : t < 1000) (hlc : lc ≤ 24) : ct_i l yX0_start wsX0_start ({ frames := 3, cells := 0, slots := 0, locals := 64 }) D vwCl (XT k1 k2 k3 k4 k5) [.ref h0, .int (nI t)] (XW h0 a1 a2 a3 a4 a5 k1 k2 k3 k4 k5 fw fd fb lq dz false mk lc cu cs) (XW h0 a1 a2 a3 a4 a5 k1 k2 k3 k4 k5 fw (xsd mk fb lq fd lc t) fb lq dz false mk lc cu cs) (bI false) := by
  have hm := sh_mul (s := t) (m := 1000) hlc (by omega)
  cases mk with
  | false =>
    refine ct_i.of (cc := cX0_start) (maxL := 2) (ty := .boolean) (by decide) rfl (Nat.le_of_ble_eq_true rfl) (nb_bI _) ?_
    intro p e s m args below meth c ls A Q hx hb hml hts hown hK hP hD hA hS hl hret
    have hown : s.vm.findClass RX0 = some m.cls := hown
    have hl : lv_has ls 2 [(0, .ref h0), (1, .int (nI t))] := hl
    have hP : va_P D vwCl [(h0, .inr (0, [.ref a1, .ref a2, .ref a3, .ref a4, .ref a5, .int 0, .int 0, .int (nI lc), .int (nI cu), .int (nI cs)])), (a1, .inl (k1, 384, .inl fw)), (a2, .inl (k2, 384, .inl fd)), (a3, .inl (k3, 384, .inl fb)), (a4, .inl (k4, 24, .inl (fun j => bI (dz j)))), (a5, .inl (k5, 24, .inl (fun j => bI (lq j))))] s.heap := hP
    have hD : va_D A [(h0, .inr (0, [.ref a1, .ref a2, .ref a3, .ref a4, .ref a5, .int 0, .int 0, .int (nI lc), .int (nI cu), .int (nI cs)])), (a1, .inl (k1, 384, .inl fw)), (a2, .inl (k2, 384, .inl fd)), (a3, .inl (k3, 384, .inl fb)), (a4, .inl (k4, 24, .inl (fun j => bI (dz j)))), (a5, .inl (k5, 24, .inl (fun j => bI (lq j))))] := hD
    refine lv_aload_n hx hb dX0_start_0 rfl (lv_at hl 0 rfl) ?_
    refine va_get (ci := 0) (v := .int 0) (C := RX0) (T := TX0) (N := 10) hx hb hts (by decide +kernel) hown hK hP 0 rfl rfl 5 (by decide) (hts (.fieldLink RX0 26 "CommitLog" "powered" "Z") (by decide +kernel)) (fun _ h9 => h9) rfl dX0_start_1 ?_
    refine lv_if_ne (tgt := 18) hx hb dX0_start_4 (by decide) (fun c_1 => ?_) (fun c_1 => ?_)
    · -- T of pc 4
      exact absurd (by decide) c_1
    · -- F of pc 4
      refine lv_iload_n hx hb dX0_start_7 rfl (lv_at hl 1 rfl) ?_
      refine lv_if_lt (tgt := 18) hx hb dX0_start_8 (by decide) (fun c_2 => ?_) (fun c_2 => ?_)
      · -- T of pc 8
        exact absurd c_2 (nI_pos (by omega))
      · -- F of pc 8
        refine lv_iload_n hx hb dX0_start_11 rfl (lv_at hl 1 rfl) ?_
        refine lv_sipush (v := 1000) hx hb dX0_start_12 (by decide) ?_
        refine lv_icmp_le (tgt := 20) hx hb dX0_start_15 (by decide) (fun c_3 => ?_) (fun c_3 => ?_)
        · -- T of pc 15
          refine lv_aload_n hx hb dX0_start_20 rfl (lv_at hl 0 rfl) ?_
          refine va_get (ci := 0) (v := .int 0) (C := RX0) (T := TX0) (N := 10) hx hb hts (by decide +kernel) hown hK hP 0 rfl rfl 6 (by decide) (hts (.fieldLink RX0 30 "CommitLog" "marked" "Z") (by decide +kernel)) (fun _ h9 => h9) rfl dX0_start_21 ?_
          refine lv_if_eq (tgt := 41) hx hb dX0_start_24 (by decide) (fun c_4 => ?_) (fun c_4 => ?_)
          · -- T of pc 24
            refine lv_iload_n hx hb dX0_start_41 rfl (lv_at hl 1 rfl) ?_
            refine lv_sipush (v := 1000) hx hb dX0_start_42 (by decide) ?_
            refine lv_icmp_ge (tgt := 50) hx hb dX0_start_45 (by decide) (fun c_5 => ?_) (fun c_5 => ?_)
            · -- T of pc 45
              exact absurd c_5 (show ¬ nI 1000 ≤ nI t from nI_ge (by omega) (by decide))
            · -- F of pc 45
              refine lv_iconst (v := 0) hx hb dX0_start_48 (by decide) ?_
              exact hret _ _ _ _ _ hP hD hS rfl dX0_start_49
          · -- F of pc 24
            exact absurd (by decide) c_4
        · -- F of pc 15
          exact absurd (show nI t ≤ nI 1000 from nI_le (by omega) (by decide)) c_3
  | true =>
    refine ct_i.of (cc := cX0_start) (maxL := 2) (ty := .boolean) (by decide) rfl (Nat.le_of_ble_eq_true rfl) (nb_bI _) ?_
    intro p e s m args below meth c ls A Q hx hb hml hts hown hK hP hD hA hS hl hret
    have hown : s.vm.findClass RX0 = some m.cls := hown
    have hl : lv_has ls 2 [(0, .ref h0), (1, .int (nI t))] := hl
    have hP : va_P D vwCl [(h0, .inr (0, [.ref a1, .ref a2, .ref a3, .ref a4, .ref a5, .int 0, .int 1, .int (nI lc), .int (nI cu), .int (nI cs)])), (a1, .inl (k1, 384, .inl fw)), (a2, .inl (k2, 384, .inl fd)), (a3, .inl (k3, 384, .inl fb)), (a4, .inl (k4, 24, .inl (fun j => bI (dz j)))), (a5, .inl (k5, 24, .inl (fun j => bI (lq j))))] s.heap := hP
    have hD : va_D A [(h0, .inr (0, [.ref a1, .ref a2, .ref a3, .ref a4, .ref a5, .int 0, .int 1, .int (nI lc), .int (nI cu), .int (nI cs)])), (a1, .inl (k1, 384, .inl fw)), (a2, .inl (k2, 384, .inl fd)), (a3, .inl (k3, 384, .inl fb)), (a4, .inl (k4, 24, .inl (fun j => bI (dz j)))), (a5, .inl (k5, 24, .inl (fun j => bI (lq j))))] := hD
    refine lv_aload_n hx hb dX0_start_0 rfl (lv_at hl 0 rfl) ?_
    refine va_get (ci := 0) (v := .int 0) (C := RX0) (T := TX0) (N := 10) hx hb hts (by decide +kernel) hown hK hP 0 rfl rfl 5 (by decide) (hts (.fieldLink RX0 26 "CommitLog" "powered" "Z") (by decide +kernel)) (fun _ h9 => h9) rfl dX0_start_1 ?_
    refine lv_if_ne (tgt := 18) hx hb dX0_start_4 (by decide) (fun c_1 => ?_) (fun c_1 => ?_)
    · -- T of pc 4
      exact absurd (by decide) c_1
    · -- F of pc 4
      refine lv_iload_n hx hb dX0_start_7 rfl (lv_at hl 1 rfl) ?_
      refine lv_if_lt (tgt := 18) hx hb dX0_start_8 (by decide) (fun c_2 => ?_) (fun c_2 => ?_)
      · -- T of pc 8
        exact absurd c_2 (nI_pos (by omega))
      · -- F of pc 8
        refine lv_iload_n hx hb dX0_start_11 rfl (lv_at hl 1 rfl) ?_
        refine lv_sipush (v := 1000) hx hb dX0_start_12 (by decide) ?_
        refine lv_icmp_le (tgt := 20) hx hb dX0_start_15 (by decide) (fun c_3 => ?_) (fun c_3 => ?_)
        · -- T of pc 15
          refine lv_aload_n hx hb dX0_start_20 rfl (lv_at hl 0 rfl) ?_
          refine va_get (ci := 0) (v := .int 1) (C := RX0) (T := TX0) (N := 10) hx hb hts (by decide +kernel) hown hK hP 0 rfl rfl 6 (by decide) (hts (.fieldLink RX0 30 "CommitLog" "marked" "Z") (by decide +kernel)) (fun _ h9 => h9) rfl dX0_start_21 ?_
          refine lv_if_eq (tgt := 41) hx hb dX0_start_24 (by decide) (fun c_4 => ?_) (fun c_4 => ?_)
          · -- T of pc 24
            exact absurd c_4 (by decide)
          · -- F of pc 24
            refine lv_aload_n hx hb dX0_start_27 rfl (lv_at hl 0 rfl) ?_
            refine lv_aload_n hx hb dX0_start_28 rfl (lv_at hl 0 rfl) ?_
            refine va_get (ci := 0) (v := .int (nI lc)) (C := RX0) (T := TX0) (N := 10) hx hb hts (by decide +kernel) hown hK hP 0 rfl rfl 7 (by decide) (hts (.fieldLink RX0 33 "CommitLog" "latestCount" "I") (by decide +kernel)) (fun _ h9 => h9) rfl dX0_start_29 ?_
            refine lv_iload_n hx hb dX0_start_32 rfl (lv_at hl 1 rfl) ?_
            refine lv_imul hx hb dX0_start_33 ?_
            refine tp_as (z := nI (lc * t)) (pk_mul _ _) ?_
            refine lv_sipush (v := 1000) hx hb dX0_start_34 (by decide) ?_
            refine lv_idiv hx hb dX0_start_37 (by decide) ?_
            refine tp_as (z := nI (lc * t / 1000)) (pk_div (d := 1000) (by omega) (by decide) (by decide)) ?_
            refine ct_Vv (As := [.int (nI (lc * t / 1000))]) (rest := []) (wr := []) (wn := [(h0, .inr (0, [.ref a1, .ref a2, .ref a3, .ref a4, .ref a5, .int 0, .int 1, .int (nI lc), .int (nI cu), .int (nI cs)])), (a1, .inl (k1, 384, .inl fw)), (a2, .inl (k2, 384, .inl (lx fb lq (lc * t / 1000) fd 24))), (a3, .inl (k3, 384, .inl fb)), (a4, .inl (k4, 24, .inl (fun j => bI (dz j)))), (a5, .inl (k5, 24, .inl (fun j => bI (lq j))))]) ⟨hx, hb, hml, hown, hts⟩ (c0_bringLogToDisk l D h0 a1 a2 a3 a4 a5 k1 k2 k3 k4 k5 fw fd fb lq dz false true lc cu cs (lc * t / 1000) (sh_div hlc (by omega))) (cwV 1 hts gX0_start_X0_bringLogToDisk rfl rfl rfl (by decide +kernel) ⟨Nat.le_of_ble_eq_true rfl, Nat.le_of_ble_eq_true rfl⟩) hK hP hD hS hA [0, 1, 2, 3, 4, 5] [] [0, 1, 2, 3, 4] [0, 1, 2, 3, 4, 5] rfl rfl (by decide) rfl (by decide) (by decide) rfl (by decide) 0 rfl 0 rfl rfl hl.1 rfl (Nat.le_of_ble_eq_true rfl) dX0_start_38 ⟨Nat.zero_le _, Nat.zero_le _⟩ (fun H locs hP hD hS => ?_)
            refine lv_iload_n hx hb dX0_start_41 rfl (lv_at hl 1 rfl) ?_
            refine lv_sipush (v := 1000) hx hb dX0_start_42 (by decide) ?_
            refine lv_icmp_ge (tgt := 50) hx hb dX0_start_45 (by decide) (fun c_5 => ?_) (fun c_5 => ?_)
            · -- T of pc 45
              exact absurd c_5 (show ¬ nI 1000 ≤ nI t from nI_ge (by omega) (by decide))
            · -- F of pc 45
              refine lv_iconst (v := 0) hx hb dX0_start_48 (by decide) ?_
              exact hret _ _ _ _ _ hP hD hS rfl dX0_start_49
        · -- F of pc 15
          exact absurd (show nI t ≤ nI 1000 from nI_le (by omega) (by decide)) c_3
set_option maxHeartbeats 4000000 in
set_option maxRecDepth 100000 in
theorem c0_start_on (l : Launch) (D : va_G) (h0 a1 a2 a3 a4 a5 : Nat) (k1 k2 k3 k4 k5 : ClassId) (fw fd fb : Nat → Int32) (lq dz : Nat → Bool) (mk : Bool) (lc cu cs : Nat) (hlc : lc ≤ 24) : ct_i l yX0_start wsX0_start ({ frames := 3, cells := 0, slots := 0, locals := 64 }) D vwCl (XT k1 k2 k3 k4 k5) [.ref h0, .int (nI 1000)] (XW h0 a1 a2 a3 a4 a5 k1 k2 k3 k4 k5 fw fd fb lq dz false mk lc cu cs) (XW h0 a1 a2 a3 a4 a5 k1 k2 k3 k4 k5 (va_cpy (xsd mk fb lq fd lc 1000) fw 0 0 384) (xsd mk fb lq fd lc 1000) fb lq (clr dz 24) true false lc cu cs) (bI true) := by
  have hm := sh_mul (s := 1000) (m := 1000) hlc (by omega)
  cases mk with
  | false =>
    refine ct_i.of (cc := cX0_start) (maxL := 2) (ty := .boolean) (by decide) rfl (Nat.le_of_ble_eq_true rfl) (nb_bI _) ?_
    intro p e s m args below meth c ls A Q hx hb hml hts hown hK hP hD hA hS hl hret
    have hown : s.vm.findClass RX0 = some m.cls := hown
    have hl : lv_has ls 2 [(0, .ref h0), (1, .int (nI 1000))] := hl
    have hP : va_P D vwCl [(h0, .inr (0, [.ref a1, .ref a2, .ref a3, .ref a4, .ref a5, .int 0, .int 0, .int (nI lc), .int (nI cu), .int (nI cs)])), (a1, .inl (k1, 384, .inl fw)), (a2, .inl (k2, 384, .inl fd)), (a3, .inl (k3, 384, .inl fb)), (a4, .inl (k4, 24, .inl (fun j => bI (dz j)))), (a5, .inl (k5, 24, .inl (fun j => bI (lq j))))] s.heap := hP
    have hD : va_D A [(h0, .inr (0, [.ref a1, .ref a2, .ref a3, .ref a4, .ref a5, .int 0, .int 0, .int (nI lc), .int (nI cu), .int (nI cs)])), (a1, .inl (k1, 384, .inl fw)), (a2, .inl (k2, 384, .inl fd)), (a3, .inl (k3, 384, .inl fb)), (a4, .inl (k4, 24, .inl (fun j => bI (dz j)))), (a5, .inl (k5, 24, .inl (fun j => bI (lq j))))] := hD
    refine lv_aload_n hx hb dX0_start_0 rfl (lv_at hl 0 rfl) ?_
    refine va_get (ci := 0) (v := .int 0) (C := RX0) (T := TX0) (N := 10) hx hb hts (by decide +kernel) hown hK hP 0 rfl rfl 5 (by decide) (hts (.fieldLink RX0 26 "CommitLog" "powered" "Z") (by decide +kernel)) (fun _ h9 => h9) rfl dX0_start_1 ?_
    refine lv_if_ne (tgt := 18) hx hb dX0_start_4 (by decide) (fun c_1 => ?_) (fun c_1 => ?_)
    · -- T of pc 4
      exact absurd (by decide) c_1
    · -- F of pc 4
      refine lv_iload_n hx hb dX0_start_7 rfl (lv_at hl 1 rfl) ?_
      refine lv_if_lt (tgt := 18) hx hb dX0_start_8 (by decide) (fun c_2 => ?_) (fun c_2 => ?_)
      · -- T of pc 8
        exact absurd c_2 (nI_pos (by omega))
      · -- F of pc 8
        refine lv_iload_n hx hb dX0_start_11 rfl (lv_at hl 1 rfl) ?_
        refine lv_sipush (v := 1000) hx hb dX0_start_12 (by decide) ?_
        refine lv_icmp_le (tgt := 20) hx hb dX0_start_15 (by decide) (fun c_3 => ?_) (fun c_3 => ?_)
        · -- T of pc 15
          refine lv_aload_n hx hb dX0_start_20 rfl (lv_at hl 0 rfl) ?_
          refine va_get (ci := 0) (v := .int 0) (C := RX0) (T := TX0) (N := 10) hx hb hts (by decide +kernel) hown hK hP 0 rfl rfl 6 (by decide) (hts (.fieldLink RX0 30 "CommitLog" "marked" "Z") (by decide +kernel)) (fun _ h9 => h9) rfl dX0_start_21 ?_
          refine lv_if_eq (tgt := 41) hx hb dX0_start_24 (by decide) (fun c_4 => ?_) (fun c_4 => ?_)
          · -- T of pc 24
            refine lv_iload_n hx hb dX0_start_41 rfl (lv_at hl 1 rfl) ?_
            refine lv_sipush (v := 1000) hx hb dX0_start_42 (by decide) ?_
            refine lv_icmp_ge (tgt := 50) hx hb dX0_start_45 (by decide) (fun c_5 => ?_) (fun c_5 => ?_)
            · -- T of pc 45
              refine lv_aload_n hx hb dX0_start_50 rfl (lv_at hl 0 rfl) ?_
              refine lv_iconst (v := 0) hx hb dX0_start_51 (by decide) ?_
              refine va_put (ci := 0) (v := .int 0) (ty := .boolean) (C := RX0) (T := TX0) (N := 10) hx hb hts (by decide +kernel) tyX0 tyX0_ok nmX0 hown hK hP hD hS 0 rfl rfl 6 (by decide) (hts (.fieldLink RX0 30 "CommitLog" "marked" "Z") (by decide +kernel)) (fun _ h9 => h9) rfl (by decide +kernel) rfl rfl (Nat.le_of_ble_eq_true rfl) dX0_start_52 (fun H locs hP hD hS => ?_)
              have hP : va_P D vwCl [(h0, .inr (0, [.ref a1, .ref a2, .ref a3, .ref a4, .ref a5, .int 0, .int 0, .int (nI lc), .int (nI cu), .int (nI cs)])), (a1, .inl (k1, 384, .inl fw)), (a2, .inl (k2, 384, .inl fd)), (a3, .inl (k3, 384, .inl fb)), (a4, .inl (k4, 24, .inl (fun j => bI (dz j)))), (a5, .inl (k5, 24, .inl (fun j => bI (lq j))))] H := hP
              have hD : va_D _ [(h0, .inr (0, [.ref a1, .ref a2, .ref a3, .ref a4, .ref a5, .int 0, .int 0, .int (nI lc), .int (nI cu), .int (nI cs)])), (a1, .inl (k1, 384, .inl fw)), (a2, .inl (k2, 384, .inl fd)), (a3, .inl (k3, 384, .inl fb)), (a4, .inl (k4, 24, .inl (fun j => bI (dz j)))), (a5, .inl (k5, 24, .inl (fun j => bI (lq j))))] := hD
              refine lv_aload_n hx hb dX0_start_55 rfl (lv_at hl 0 rfl) ?_
              refine lv_iconst (v := 1) hx hb dX0_start_56 (by decide) ?_
              refine va_put (ci := 0) (v := .int 1) (ty := .boolean) (C := RX0) (T := TX0) (N := 10) hx hb hts (by decide +kernel) tyX0 tyX0_ok nmX0 hown hK hP hD hS 0 rfl rfl 5 (by decide) (hts (.fieldLink RX0 26 "CommitLog" "powered" "Z") (by decide +kernel)) (fun _ h9 => h9) rfl (by decide +kernel) rfl rfl (Nat.le_of_ble_eq_true rfl) dX0_start_57 (fun H locs hP hD hS => ?_)
              have hP : va_P D vwCl [(h0, .inr (0, [.ref a1, .ref a2, .ref a3, .ref a4, .ref a5, .int 1, .int 0, .int (nI lc), .int (nI cu), .int (nI cs)])), (a1, .inl (k1, 384, .inl fw)), (a2, .inl (k2, 384, .inl fd)), (a3, .inl (k3, 384, .inl fb)), (a4, .inl (k4, 24, .inl (fun j => bI (dz j)))), (a5, .inl (k5, 24, .inl (fun j => bI (lq j))))] H := hP
              have hD : va_D _ [(h0, .inr (0, [.ref a1, .ref a2, .ref a3, .ref a4, .ref a5, .int 1, .int 0, .int (nI lc), .int (nI cu), .int (nI cs)])), (a1, .inl (k1, 384, .inl fw)), (a2, .inl (k2, 384, .inl fd)), (a3, .inl (k3, 384, .inl fb)), (a4, .inl (k4, 24, .inl (fun j => bI (dz j)))), (a5, .inl (k5, 24, .inl (fun j => bI (lq j))))] := hD
              refine lv_aload_n hx hb dX0_start_60 rfl (lv_at hl 0 rfl) ?_
              refine ct_Vv (As := []) (rest := []) (wr := []) (wn := [(h0, .inr (0, [.ref a1, .ref a2, .ref a3, .ref a4, .ref a5, .int 1, .int 0, .int (nI lc), .int (nI cu), .int (nI cs)])), (a1, .inl (k1, 384, .inl (va_cpy fd fw 0 0 384))), (a2, .inl (k2, 384, .inl fd)), (a3, .inl (k3, 384, .inl fb)), (a4, .inl (k4, 24, .inl (fun j => bI ((clr dz 24) j)))), (a5, .inl (k5, 24, .inl (fun j => bI (lq j))))]) ⟨hx, hb, hml, hown, hts⟩ (c0_takeWork l D h0 a1 a2 a3 a4 a5 k1 k2 k3 k4 k5 fw fd fb lq dz true false lc cu cs) (cwV 0 hts gX0_start_X0_takeWorkFromDisk rfl rfl rfl (by decide +kernel) ⟨Nat.le_of_ble_eq_true rfl, Nat.le_of_ble_eq_true rfl⟩) hK hP hD hS hA [0, 1, 2, 3, 4, 5] [] [0, 1, 2, 3, 4] [0, 1, 2, 3, 4, 5] rfl rfl (by decide) rfl (by decide) (by decide) rfl (by decide) 0 rfl 0 rfl rfl hl.1 rfl (Nat.le_of_ble_eq_true rfl) dX0_start_61 ⟨Nat.zero_le _, Nat.zero_le _⟩ (fun H locs hP hD hS => ?_)
              refine lv_iconst (v := 1) hx hb dX0_start_64 (by decide) ?_
              exact hret _ _ _ _ _ hP hD hS rfl dX0_start_65
            · -- F of pc 45
              exact absurd (by decide) c_5
          · -- F of pc 24
            exact absurd (by decide) c_4
        · -- F of pc 15
          exact absurd (show nI 1000 ≤ nI 1000 from nI_le (by omega) (by decide)) c_3
  | true =>
    refine ct_i.of (cc := cX0_start) (maxL := 2) (ty := .boolean) (by decide) rfl (Nat.le_of_ble_eq_true rfl) (nb_bI _) ?_
    intro p e s m args below meth c ls A Q hx hb hml hts hown hK hP hD hA hS hl hret
    have hown : s.vm.findClass RX0 = some m.cls := hown
    have hl : lv_has ls 2 [(0, .ref h0), (1, .int (nI 1000))] := hl
    have hP : va_P D vwCl [(h0, .inr (0, [.ref a1, .ref a2, .ref a3, .ref a4, .ref a5, .int 0, .int 1, .int (nI lc), .int (nI cu), .int (nI cs)])), (a1, .inl (k1, 384, .inl fw)), (a2, .inl (k2, 384, .inl fd)), (a3, .inl (k3, 384, .inl fb)), (a4, .inl (k4, 24, .inl (fun j => bI (dz j)))), (a5, .inl (k5, 24, .inl (fun j => bI (lq j))))] s.heap := hP
    have hD : va_D A [(h0, .inr (0, [.ref a1, .ref a2, .ref a3, .ref a4, .ref a5, .int 0, .int 1, .int (nI lc), .int (nI cu), .int (nI cs)])), (a1, .inl (k1, 384, .inl fw)), (a2, .inl (k2, 384, .inl fd)), (a3, .inl (k3, 384, .inl fb)), (a4, .inl (k4, 24, .inl (fun j => bI (dz j)))), (a5, .inl (k5, 24, .inl (fun j => bI (lq j))))] := hD
    refine lv_aload_n hx hb dX0_start_0 rfl (lv_at hl 0 rfl) ?_
    refine va_get (ci := 0) (v := .int 0) (C := RX0) (T := TX0) (N := 10) hx hb hts (by decide +kernel) hown hK hP 0 rfl rfl 5 (by decide) (hts (.fieldLink RX0 26 "CommitLog" "powered" "Z") (by decide +kernel)) (fun _ h9 => h9) rfl dX0_start_1 ?_
    refine lv_if_ne (tgt := 18) hx hb dX0_start_4 (by decide) (fun c_1 => ?_) (fun c_1 => ?_)
    · -- T of pc 4
      exact absurd (by decide) c_1
    · -- F of pc 4
      refine lv_iload_n hx hb dX0_start_7 rfl (lv_at hl 1 rfl) ?_
      refine lv_if_lt (tgt := 18) hx hb dX0_start_8 (by decide) (fun c_2 => ?_) (fun c_2 => ?_)
      · -- T of pc 8
        exact absurd c_2 (nI_pos (by omega))
      · -- F of pc 8
        refine lv_iload_n hx hb dX0_start_11 rfl (lv_at hl 1 rfl) ?_
        refine lv_sipush (v := 1000) hx hb dX0_start_12 (by decide) ?_
        refine lv_icmp_le (tgt := 20) hx hb dX0_start_15 (by decide) (fun c_3 => ?_) (fun c_3 => ?_)
        · -- T of pc 15
          refine lv_aload_n hx hb dX0_start_20 rfl (lv_at hl 0 rfl) ?_
          refine va_get (ci := 0) (v := .int 1) (C := RX0) (T := TX0) (N := 10) hx hb hts (by decide +kernel) hown hK hP 0 rfl rfl 6 (by decide) (hts (.fieldLink RX0 30 "CommitLog" "marked" "Z") (by decide +kernel)) (fun _ h9 => h9) rfl dX0_start_21 ?_
          refine lv_if_eq (tgt := 41) hx hb dX0_start_24 (by decide) (fun c_4 => ?_) (fun c_4 => ?_)
          · -- T of pc 24
            exact absurd c_4 (by decide)
          · -- F of pc 24
            refine lv_aload_n hx hb dX0_start_27 rfl (lv_at hl 0 rfl) ?_
            refine lv_aload_n hx hb dX0_start_28 rfl (lv_at hl 0 rfl) ?_
            refine va_get (ci := 0) (v := .int (nI lc)) (C := RX0) (T := TX0) (N := 10) hx hb hts (by decide +kernel) hown hK hP 0 rfl rfl 7 (by decide) (hts (.fieldLink RX0 33 "CommitLog" "latestCount" "I") (by decide +kernel)) (fun _ h9 => h9) rfl dX0_start_29 ?_
            refine lv_iload_n hx hb dX0_start_32 rfl (lv_at hl 1 rfl) ?_
            refine lv_imul hx hb dX0_start_33 ?_
            refine tp_as (z := nI (lc * 1000)) (pk_mul _ _) ?_
            refine lv_sipush (v := 1000) hx hb dX0_start_34 (by decide) ?_
            refine lv_idiv hx hb dX0_start_37 (by decide) ?_
            refine tp_as (z := nI (lc * 1000 / 1000)) (pk_div (d := 1000) (by omega) (by decide) (by decide)) ?_
            refine ct_Vv (As := [.int (nI (lc * 1000 / 1000))]) (rest := []) (wr := []) (wn := [(h0, .inr (0, [.ref a1, .ref a2, .ref a3, .ref a4, .ref a5, .int 0, .int 1, .int (nI lc), .int (nI cu), .int (nI cs)])), (a1, .inl (k1, 384, .inl fw)), (a2, .inl (k2, 384, .inl (lx fb lq (lc * 1000 / 1000) fd 24))), (a3, .inl (k3, 384, .inl fb)), (a4, .inl (k4, 24, .inl (fun j => bI (dz j)))), (a5, .inl (k5, 24, .inl (fun j => bI (lq j))))]) ⟨hx, hb, hml, hown, hts⟩ (c0_bringLogToDisk l D h0 a1 a2 a3 a4 a5 k1 k2 k3 k4 k5 fw fd fb lq dz false true lc cu cs (lc * 1000 / 1000) (sh_div hlc (by omega))) (cwV 1 hts gX0_start_X0_bringLogToDisk rfl rfl rfl (by decide +kernel) ⟨Nat.le_of_ble_eq_true rfl, Nat.le_of_ble_eq_true rfl⟩) hK hP hD hS hA [0, 1, 2, 3, 4, 5] [] [0, 1, 2, 3, 4] [0, 1, 2, 3, 4, 5] rfl rfl (by decide) rfl (by decide) (by decide) rfl (by decide) 0 rfl 0 rfl rfl hl.1 rfl (Nat.le_of_ble_eq_true rfl) dX0_start_38 ⟨Nat.zero_le _, Nat.zero_le _⟩ (fun H locs hP hD hS => ?_)
            refine lv_iload_n hx hb dX0_start_41 rfl (lv_at hl 1 rfl) ?_
            refine lv_sipush (v := 1000) hx hb dX0_start_42 (by decide) ?_
            refine lv_icmp_ge (tgt := 50) hx hb dX0_start_45 (by decide) (fun c_5 => ?_) (fun c_5 => ?_)
            · -- T of pc 45
              refine lv_aload_n hx hb dX0_start_50 rfl (lv_at hl 0 rfl) ?_
              refine lv_iconst (v := 0) hx hb dX0_start_51 (by decide) ?_
              refine va_put (ci := 0) (v := .int 0) (ty := .boolean) (C := RX0) (T := TX0) (N := 10) hx hb hts (by decide +kernel) tyX0 tyX0_ok nmX0 hown hK hP hD hS 0 rfl rfl 6 (by decide) (hts (.fieldLink RX0 30 "CommitLog" "marked" "Z") (by decide +kernel)) (fun _ h9 => h9) rfl (by decide +kernel) rfl rfl (Nat.le_of_ble_eq_true rfl) dX0_start_52 (fun H locs hP hD hS => ?_)
              have hP : va_P D vwCl [(h0, .inr (0, [.ref a1, .ref a2, .ref a3, .ref a4, .ref a5, .int 0, .int 0, .int (nI lc), .int (nI cu), .int (nI cs)])), (a1, .inl (k1, 384, .inl fw)), (a2, .inl (k2, 384, .inl (lx fb lq (lc * 1000 / 1000) fd 24))), (a3, .inl (k3, 384, .inl fb)), (a4, .inl (k4, 24, .inl (fun j => bI (dz j)))), (a5, .inl (k5, 24, .inl (fun j => bI (lq j))))] H := hP
              have hD : va_D _ [(h0, .inr (0, [.ref a1, .ref a2, .ref a3, .ref a4, .ref a5, .int 0, .int 0, .int (nI lc), .int (nI cu), .int (nI cs)])), (a1, .inl (k1, 384, .inl fw)), (a2, .inl (k2, 384, .inl (lx fb lq (lc * 1000 / 1000) fd 24))), (a3, .inl (k3, 384, .inl fb)), (a4, .inl (k4, 24, .inl (fun j => bI (dz j)))), (a5, .inl (k5, 24, .inl (fun j => bI (lq j))))] := hD
              refine lv_aload_n hx hb dX0_start_55 rfl (lv_at hl 0 rfl) ?_
              refine lv_iconst (v := 1) hx hb dX0_start_56 (by decide) ?_
              refine va_put (ci := 0) (v := .int 1) (ty := .boolean) (C := RX0) (T := TX0) (N := 10) hx hb hts (by decide +kernel) tyX0 tyX0_ok nmX0 hown hK hP hD hS 0 rfl rfl 5 (by decide) (hts (.fieldLink RX0 26 "CommitLog" "powered" "Z") (by decide +kernel)) (fun _ h9 => h9) rfl (by decide +kernel) rfl rfl (Nat.le_of_ble_eq_true rfl) dX0_start_57 (fun H locs hP hD hS => ?_)
              have hP : va_P D vwCl [(h0, .inr (0, [.ref a1, .ref a2, .ref a3, .ref a4, .ref a5, .int 1, .int 0, .int (nI lc), .int (nI cu), .int (nI cs)])), (a1, .inl (k1, 384, .inl fw)), (a2, .inl (k2, 384, .inl (lx fb lq (lc * 1000 / 1000) fd 24))), (a3, .inl (k3, 384, .inl fb)), (a4, .inl (k4, 24, .inl (fun j => bI (dz j)))), (a5, .inl (k5, 24, .inl (fun j => bI (lq j))))] H := hP
              have hD : va_D _ [(h0, .inr (0, [.ref a1, .ref a2, .ref a3, .ref a4, .ref a5, .int 1, .int 0, .int (nI lc), .int (nI cu), .int (nI cs)])), (a1, .inl (k1, 384, .inl fw)), (a2, .inl (k2, 384, .inl (lx fb lq (lc * 1000 / 1000) fd 24))), (a3, .inl (k3, 384, .inl fb)), (a4, .inl (k4, 24, .inl (fun j => bI (dz j)))), (a5, .inl (k5, 24, .inl (fun j => bI (lq j))))] := hD
              refine lv_aload_n hx hb dX0_start_60 rfl (lv_at hl 0 rfl) ?_
              refine ct_Vv (As := []) (rest := []) (wr := []) (wn := [(h0, .inr (0, [.ref a1, .ref a2, .ref a3, .ref a4, .ref a5, .int 1, .int 0, .int (nI lc), .int (nI cu), .int (nI cs)])), (a1, .inl (k1, 384, .inl (va_cpy (lx fb lq (lc * 1000 / 1000) fd 24) fw 0 0 384))), (a2, .inl (k2, 384, .inl (lx fb lq (lc * 1000 / 1000) fd 24))), (a3, .inl (k3, 384, .inl fb)), (a4, .inl (k4, 24, .inl (fun j => bI ((clr dz 24) j)))), (a5, .inl (k5, 24, .inl (fun j => bI (lq j))))]) ⟨hx, hb, hml, hown, hts⟩ (c0_takeWork l D h0 a1 a2 a3 a4 a5 k1 k2 k3 k4 k5 fw (lx fb lq (lc * 1000 / 1000) fd 24) fb lq dz true false lc cu cs) (cwV 0 hts gX0_start_X0_takeWorkFromDisk rfl rfl rfl (by decide +kernel) ⟨Nat.le_of_ble_eq_true rfl, Nat.le_of_ble_eq_true rfl⟩) hK hP hD hS hA [0, 1, 2, 3, 4, 5] [] [0, 1, 2, 3, 4] [0, 1, 2, 3, 4, 5] rfl rfl (by decide) rfl (by decide) (by decide) rfl (by decide) 0 rfl 0 rfl rfl hl.1 rfl (Nat.le_of_ble_eq_true rfl) dX0_start_61 ⟨Nat.zero_le _, Nat.zero_le _⟩ (fun H locs hP hD hS => ?_)
              refine lv_iconst (v := 1) hx hb dX0_start_64 (by decide) ?_
              exact hret _ _ _ _ _ hP hD hS rfl dX0_start_65
            · -- F of pc 45
              exact absurd (by decide) c_5
        · -- F of pc 15
          exact absurd (show nI 1000 ≤ nI 1000 from nI_le (by omega) (by decide)) c_3
end
section
/-! The reference: its world, its private methods. -/
def lfI : Option Nat → Int32
  | none => -1
  | some k => nI k
def lfD : Option Nat → Option Nat
  | some (k + 1) => some k
  | _ => none
abbrev MW (h0 a1 a2 a3 a4 a5 : Nat) (k1 k2 k3 k4 k5 : ClassId) (gw gd gl : Nat → Int32) (dz lg : Nat → Bool) (of mk : Bool) (la : Nat) (lf : Option Nat) (sh : Nat) : va_W := [(h0, .inr (1, [.ref a1, .ref a2, .ref a3, .ref a4, .ref a5, .int (bI of), .int (bI mk), .int (nI la), .int (lfI lf), .int (nI sh)])), (a1, .inl (k1, 384, .inl gw)), (a2, .inl (k2, 384, .inl gd)), (a3, .inl (k3, 384, .inl gl)), (a4, .inl (k4, 24, .inl (fun j => bI (dz j)))), (a5, .inl (k5, 24, .inl (fun j => bI (lg j))))]
abbrev MT (k1 k2 k3 k4 k5 : ClassId) : List (ClassId × FieldType) := [(k1, .byte), (k2, .byte), (k3, .byte), (k4, .boolean), (k5, .boolean)]
def cpK (f g : Nat → Int32) (i k : Nat) : Nat → Int32 := fun j => if i * 16 ≤ j ∧ j < i * 16 + k then vp_nar .byte (f j) else g j
theorem cpK_0 (f g : Nat → Int32) (i : Nat) : cpK f g i 0 = g := by
  funext j; simp only [cpK]; rw [if_neg (by omega)]
theorem cpK_s (f g : Nat → Int32) (i k : Nat) : upd (cpK f g i k) (i * 16 + k) (vp_nar .byte (f (i * 16 + k))) = cpK f g i (k + 1) := by
  funext j
  simp only [upd, cpK]
  by_cases h : j = i * 16 + k
  · subst h; rw [if_pos rfl, if_pos (by omega)]
  · rw [if_neg h]
    by_cases h2 : i * 16 ≤ j ∧ j < i * 16 + k
    · rw [if_pos h2, if_pos (by omega)]
    · rw [if_neg h2, if_neg (by omega)]
def lgK (dz lg : Nat → Bool) (k : Nat) : Nat → Bool := fun j => if j < k then dz j else lg j
theorem lgK_0 (dz lg : Nat → Bool) : lgK dz lg 0 = lg := by funext j; simp [lgK]
theorem lgK_s (dz lg : Nat → Bool) (k : Nat) : va_up (lgK dz lg k) k (dz k) = lgK dz lg (k + 1) := by
  funext j
  simp only [va_up, lgK]
  by_cases h : j = k
  · subst h; simp
  · by_cases h2 : j < k
    · simp [h, h2, show j < k + 1 by omega]
    · simp [h, h2, show ¬ j < k + 1 by omega]
def ntK (gw : Nat → Int32) (dz : Nat → Bool) (gl : Nat → Int32) : Nat → Nat → Int32
  | 0 => gl
  | k + 1 => bif dz k then cpK gw (ntK gw dz gl k) k 16 else ntK gw dz gl k
def lyK (gl : Nat → Int32) (lg : Nat → Bool) (mo : Nat) (gd : Nat → Int32) : Nat → Nat → Int32
  | 0 => gd
  | k + 1 => if lg k = true ∧ cnt lg k < mo then cpK gl (lyK gl lg mo gd k) k 16 else lyK gl lg mo gd k
def frK (gd gw : Nat → Int32) : Nat → Nat → Int32
  | 0 => gw
  | k + 1 => cpK gd (frK gd gw k) k 16
def inR (lo hi x : Int32) : Bool := decide (¬ x < lo) && decide (¬ hi < x)
set_option maxHeartbeats 4000000 in
set_option maxRecDepth 100000 in
theorem c1_in (l : Launch) (D : va_G) (x lo hi : Int32) : ct_i l yX1_in wsX1_in ({ frames := 0, cells := 0, slots := 0, locals := 0 }) D vwCl [] [.int x, .int lo, .int hi] [] [] (bI (inR lo hi x)) := by
  refine ct_i.of (cc := cX1_in) (maxL := 3) (ty := .boolean) (by decide) rfl (Nat.le_of_ble_eq_true rfl) (nb_bI _) ?_
  intro p e s m args below meth c ls A Q hx hb hml hts hown hK hP hD hA hS hl hret
  have hown : s.vm.findClass RX1 = some m.cls := hown
  have hl : lv_has ls 3 [(0, .int x), (1, .int lo), (2, .int hi)] := hl
  have hP : va_P D vwCl [] s.heap := hP
  have hD : va_D A [] := hD
  refine lv_iload_n hx hb dX1_in_0 rfl (lv_at hl 0 rfl) ?_
  refine lv_iload_n hx hb dX1_in_1 rfl (lv_at hl 1 rfl) ?_
  refine lv_icmp_lt (tgt := 14) hx hb dX1_in_2 (by decide) (fun c_1 => ?_) (fun c_1 => ?_)
  · -- T of pc 2
    refine lv_iconst (v := 0) hx hb dX1_in_14 (by decide) ?_
    exact hret _ _ _ _ _ hP hD hS (by simp [inR, bI, *]) dX1_in_15
  · -- F of pc 2
    refine lv_iload_n hx hb dX1_in_5 rfl (lv_at hl 0 rfl) ?_
    refine lv_iload_n hx hb dX1_in_6 rfl (lv_at hl 2 rfl) ?_
    refine lv_icmp_gt (tgt := 14) hx hb dX1_in_7 (by decide) (fun c_2 => ?_) (fun c_2 => ?_)
    · -- T of pc 7
      refine lv_iconst (v := 0) hx hb dX1_in_14 (by decide) ?_
      exact hret _ _ _ _ _ hP hD hS (by simp [inR, bI, *]) dX1_in_15
    · -- F of pc 7
      refine lv_iconst (v := 1) hx hb dX1_in_10 (by decide) ?_
      refine lv_goto (tgt := 15) hx hb dX1_in_11 (by decide) ?_
      exact hret _ _ _ _ _ hP hD hS (by simp [inR, bI, *]) dX1_in_15
set_option maxHeartbeats 4000000 in
set_option maxRecDepth 100000 in
theorem c1_copy (l : Launch) (D : va_G) (x1 x2 : Nat) (q1 q2 : ClassId) (f g : Nat → Int32) (i : Nat) (hi : i < 24) : ct_v l yX1_copy wsX1_copy ({ frames := 0, cells := 0, slots := 0, locals := 0 }) D vwCl [(q1, .byte), (q2, .byte)] [.ref x1, .ref x2, .int (nI i)] [(x1, .inl (q1, 384, .inl f)), (x2, .inl (q2, 384, .inl g))] [(x1, .inl (q1, 384, .inl f)), (x2, .inl (q2, 384, .inl (cpK f g i 16)))] := by
  refine ct_v.of (cc := cX1_copy) (maxL := 4) (by decide) rfl (Nat.le_of_ble_eq_true rfl) ?_
  intro p e s m args below meth c ls A Q hx hb hml hts hown hK hP hD hA hS hl hret
  have hown : s.vm.findClass RX1 = some m.cls := hown
  have hl : lv_has ls 4 [(0, .ref x1), (1, .ref x2), (2, .int (nI i))] := hl
  have hP : va_P D vwCl [(x1, .inl (q1, 384, .inl f)), (x2, .inl (q2, 384, .inl g))] s.heap := hP
  have hD : va_D A [(x1, .inl (q1, 384, .inl f)), (x2, .inl (q2, 384, .inl g))] := hD
  refine lv_bipush (v := 16) hx hb dX1_copy_0 (by decide) ?_
  refine lv_iload_n hx hb dX1_copy_2 rfl (lv_at hl 2 rfl) ?_
  refine lv_imul hx hb dX1_copy_3 ?_
  refine tp_as (z := nI (i * 16)) (by rw [Nat.mul_comm i 16]; exact pk_mul 16 i) ?_
  refine lv_istore_n (lv' := [(3, .int (nI (i * 16))), (0, .ref x1), (1, .ref x2), (2, .int (nI i))]) hx hb dX1_copy_4 rfl hl (by decide) rfl (fun ls hl => ?_)
  have loop : ∀ (n k : Nat), k + n = 16 → ∀ (ls : Array Slot) (H : Heap) (locs : List Loc), lv_has ls 4 [(3, .int (nI (i * 16 + k))), (2, .int (nI i)), (1, .ref x2), (0, .ref x1)] → va_P D vwCl [(x1, .inl (q1, 384, .inl f)), (x2, .inl (q2, 384, .inl (cpK f g i k)))] H → va_D A [(x1, .inl (q1, 384, .inl f)), (x2, .inl (q2, 384, .inl (cpK f g i k)))] → va_S A s.heap H locs → W p l e ({ frames := 0, cells := 0, slots := 0, locals := 0 }) s m args below meth c H locs 0 0 Q (F0 m 5 ls []) := by
    intro n
    induction n with
    | zero =>
      intro k hk ls H locs hl hP hD hS
      obtain rfl : k = 16 := by omega
      refine lv_iload_n hx hb dX1_copy_5 rfl (lv_at hl 0 rfl) ?_
      refine lv_bipush (v := 16) hx hb dX1_copy_6 (by decide) ?_
      refine lv_iload_n hx hb dX1_copy_8 rfl (lv_at hl 1 rfl) ?_
      refine lv_imul hx hb dX1_copy_9 ?_
      refine tp_as (z := nI (i * 16)) (by rw [Nat.mul_comm i 16]; exact pk_mul 16 i) ?_
      refine lv_bipush (v := 16) hx hb dX1_copy_10 (by decide) ?_
      refine lv_iadd hx hb dX1_copy_12 ?_
      refine tp_as (z := nI (i * 16 + 16)) (nI_add _ 16) ?_
      refine lv_icmp_ge (tgt := 28) hx hb dX1_copy_13 (by decide) (fun c_1 => ?_) (fun c_1 => ?_)
      · -- T of pc 13
        exact hret _ _ _ _ hP hD hS dX1_copy_28
      · -- F of pc 13
        exact absurd (nI_le (Nat.le_refl _) (by omega)) c_1
    | succ n ih =>
      intro k hk ls H locs hl hP hD hS
      refine lv_iload_n hx hb dX1_copy_5 rfl (lv_at hl 0 rfl) ?_
      refine lv_bipush (v := 16) hx hb dX1_copy_6 (by decide) ?_
      refine lv_iload_n hx hb dX1_copy_8 rfl (lv_at hl 1 rfl) ?_
      refine lv_imul hx hb dX1_copy_9 ?_
      refine tp_as (z := nI (i * 16)) (by rw [Nat.mul_comm i 16]; exact pk_mul 16 i) ?_
      refine lv_bipush (v := 16) hx hb dX1_copy_10 (by decide) ?_
      refine lv_iadd hx hb dX1_copy_12 ?_
      refine tp_as (z := nI (i * 16 + 16)) (nI_add _ 16) ?_
      refine lv_icmp_ge (tgt := 28) hx hb dX1_copy_13 (by decide) (fun c_2 => ?_) (fun c_2 => ?_)
      · -- T of pc 13
        exact absurd c_2 (nI_ge (by omega) (by omega))
      · -- F of pc 13
        refine lv_aload_n hx hb dX1_copy_16 rfl (lv_at hl 2 rfl) ?_
        refine lv_iload_n hx hb dX1_copy_17 rfl (lv_at hl 0 rfl) ?_
        refine lv_aload_n hx hb dX1_copy_18 rfl (lv_at hl 3 rfl) ?_
        refine lv_iload_n hx hb dX1_copy_19 rfl (lv_at hl 0 rfl) ?_
        refine va_bald hx hb hK hP 0 0 rfl rfl (vp_in_nI (by omega) (by decide)) dX1_copy_20 ?_
        refine tp_as (z := f (i * 16 + k)) (by show f (nI (i * 16 + k)).toNatClampNeg = _; rw [cl_nI (by omega)]) ?_
        refine va_bast hx hb hK hP hD hS 1 1 rfl rfl (vp_in_nI (by omega) (by decide)) dX1_copy_21 (fun H locs hP hD hS => ?_)
        rw [cl_nI (show i * 16 + k < 2 ^ 31 by omega), cpK_s] at hP hD
        have hP : va_P D vwCl [(x1, .inl (q1, 384, .inl f)), (x2, .inl (q2, 384, .inl (cpK f g i (k + 1))))] H := hP
        have hD : va_D _ [(x1, .inl (q1, 384, .inl f)), (x2, .inl (q2, 384, .inl (cpK f g i (k + 1))))] := hD
        refine lv_iinc (v := (nI (i * 16 + (k + 1)))) (lv' := [(3, .int (nI (i * 16 + (k + 1)))), (2, .int (nI i)), (1, .ref x2), (0, .ref x1)]) hx hb dX1_copy_22 hl (k := 0) rfl (nI_1 _) (by decide) rfl (fun ls hl => ?_)
        refine lv_goto (tgt := 5) hx hb dX1_copy_25 (by decide) ?_
        exact ih (k + 1) (by omega) ls H locs (lv_sub hl [0, 1, 2, 3] rfl) hP hD hS
  exact loop 16 0 rfl ls _ _ (lv_sub hl [0, 3, 2, 1] rfl) (by rw [cpK_0]; exact hP) (by rw [cpK_0]; exact hD) hS
set_option maxHeartbeats 4000000 in
set_option maxRecDepth 100000 in
theorem c1_many (l : Launch) (D : va_G) (h0 a1 a2 a3 a4 a5 : Nat) (k1 k2 k3 k4 k5 : ClassId) (gw gd gl : Nat → Int32) (dz lg : Nat → Bool) (of mk : Bool) (la : Nat) (lf : Option Nat) (sh : Nat) : ct_i l yX1_many wsX1_many ({ frames := 0, cells := 0, slots := 0, locals := 0 }) D vwCl (MT k1 k2 k3 k4 k5) [.ref h0] (MW h0 a1 a2 a3 a4 a5 k1 k2 k3 k4 k5 gw gd gl dz lg of mk la lf sh) (MW h0 a1 a2 a3 a4 a5 k1 k2 k3 k4 k5 gw gd gl dz lg of mk la lf sh) (nI (cnt dz 24)) := by
  refine ct_i.of (cc := cX1_many) (maxL := 3) (ty := .int) (by decide) rfl (Nat.le_of_ble_eq_true rfl) rfl ?_
  intro p e s m args below meth c ls A Q hx hb hml hts hown hK hP hD hA hS hl hret
  have hown : s.vm.findClass RX1 = some m.cls := hown
  have hl : lv_has ls 3 [(0, .ref h0)] := hl
  have hP : va_P D vwCl [(h0, .inr (1, [.ref a1, .ref a2, .ref a3, .ref a4, .ref a5, .int (bI of), .int (bI mk), .int (nI la), .int (lfI lf), .int (nI sh)])), (a1, .inl (k1, 384, .inl gw)), (a2, .inl (k2, 384, .inl gd)), (a3, .inl (k3, 384, .inl gl)), (a4, .inl (k4, 24, .inl (fun j => bI (dz j)))), (a5, .inl (k5, 24, .inl (fun j => bI (lg j))))] s.heap := hP
  have hD : va_D A [(h0, .inr (1, [.ref a1, .ref a2, .ref a3, .ref a4, .ref a5, .int (bI of), .int (bI mk), .int (nI la), .int (lfI lf), .int (nI sh)])), (a1, .inl (k1, 384, .inl gw)), (a2, .inl (k2, 384, .inl gd)), (a3, .inl (k3, 384, .inl gl)), (a4, .inl (k4, 24, .inl (fun j => bI (dz j)))), (a5, .inl (k5, 24, .inl (fun j => bI (lg j))))] := hD
  refine lv_iconst (v := 0) hx hb dX1_many_0 (by decide) ?_
  refine lv_istore_n (lv' := [(1, .int 0), (0, .ref h0)]) hx hb dX1_many_1 rfl hl (by decide) rfl (fun ls hl => ?_)
  refine lv_iconst (v := 0) hx hb dX1_many_2 (by decide) ?_
  refine lv_istore_n (lv' := [(2, .int 0), (1, .int 0), (0, .ref h0)]) hx hb dX1_many_3 rfl hl (by decide) rfl (fun ls hl => ?_)
  have loop : ∀ (n k : Nat), k + n = 24 → ∀ (ls : Array Slot) (H : Heap) (locs : List Loc), lv_has ls 3 [(2, .int (nI k)), (1, .int (nI (cnt dz k))), (0, .ref h0)] → va_P D vwCl [(h0, .inr (1, [.ref a1, .ref a2, .ref a3, .ref a4, .ref a5, .int (bI of), .int (bI mk), .int (nI la), .int (lfI lf), .int (nI sh)])), (a1, .inl (k1, 384, .inl gw)), (a2, .inl (k2, 384, .inl gd)), (a3, .inl (k3, 384, .inl gl)), (a4, .inl (k4, 24, .inl (fun j => bI (dz j)))), (a5, .inl (k5, 24, .inl (fun j => bI (lg j))))] H → va_D A [(h0, .inr (1, [.ref a1, .ref a2, .ref a3, .ref a4, .ref a5, .int (bI of), .int (bI mk), .int (nI la), .int (lfI lf), .int (nI sh)])), (a1, .inl (k1, 384, .inl gw)), (a2, .inl (k2, 384, .inl gd)), (a3, .inl (k3, 384, .inl gl)), (a4, .inl (k4, 24, .inl (fun j => bI (dz j)))), (a5, .inl (k5, 24, .inl (fun j => bI (lg j))))] → va_S A s.heap H locs → W p l e ({ frames := 0, cells := 0, slots := 0, locals := 0 }) s m args below meth c H locs 0 0 Q (F0 m 4 ls []) := by
    intro n
    induction n with
    | zero =>
      intro k hk ls H locs hl hP hD hS
      obtain rfl : k = 24 := by omega
      refine lv_iload_n hx hb dX1_many_4 rfl (lv_at hl 0 rfl) ?_
      refine lv_bipush (v := 24) hx hb dX1_many_5 (by decide) ?_
      refine lv_icmp_ge (tgt := 33) hx hb dX1_many_7 (by decide) (fun c_1 => ?_) (fun c_1 => ?_)
      · -- T of pc 7
        refine lv_iload_n hx hb dX1_many_33 rfl (lv_at hl 1 rfl) ?_
        exact hret _ _ _ _ _ hP hD hS rfl dX1_many_34
      · -- F of pc 7
        exact absurd (by decide) c_1
    | succ n ih =>
      intro k hk ls H locs hl hP hD hS
      cases hz : dz k with
      | false =>
        refine lv_iload_n hx hb dX1_many_4 rfl (lv_at hl 0 rfl) ?_
        refine lv_bipush (v := 24) hx hb dX1_many_5 (by decide) ?_
        refine lv_icmp_ge (tgt := 33) hx hb dX1_many_7 (by decide) (fun c_2 => ?_) (fun c_2 => ?_)
        · -- T of pc 7
          exact absurd c_2 (show ¬ nI 24 ≤ nI k from nI_ge (by omega) (by decide))
        · -- F of pc 7
          refine lv_iload_n hx hb dX1_many_10 rfl (lv_at hl 1 rfl) ?_
          refine lv_aload_n hx hb dX1_many_11 rfl (lv_at hl 2 rfl) ?_
          refine va_get (ci := 1) (v := .ref a4) (C := RX1) (T := TX1) (N := 10) hx hb hts (by decide +kernel) hown hK hP 0 rfl rfl 3 (by decide) (hts (.fieldLink RX1 19 "CommitLogModel" "dirty" "[Z") (by decide +kernel)) (fun _ h9 => h9) rfl dX1_many_12 ?_
          refine lv_iload_n hx hb dX1_many_15 rfl (lv_at hl 0 rfl) ?_
          refine va_zald hx hb hK hP 4 3 rfl rfl (vp_in_nI (by omega) (by decide)) dX1_many_16 ?_
          refine tp_as (z := 0) (by rw [cl_nI (by omega)]; exact (by rw [hz]; rfl)) ?_
          refine lv_if_eq (tgt := 24) hx hb dX1_many_17 (by decide) (fun c_3 => ?_) (fun c_3 => ?_)
          · -- T of pc 17
            refine lv_iconst (v := 0) hx hb dX1_many_24 (by decide) ?_
            refine lv_iadd hx hb dX1_many_25 ?_
            refine tp_as (z := nI (cnt dz (k + 1))) (by rw [cnt_f hz]; exact Int32.add_zero _) ?_
            refine lv_istore_n (lv' := [(1, .int (nI (cnt dz (k + 1)))), (2, .int (nI k)), (0, .ref h0)]) hx hb dX1_many_26 rfl hl (by decide) rfl (fun ls hl => ?_)
            refine lv_iinc (v := (nI (k + 1))) (lv' := [(2, .int (nI (k + 1))), (1, .int (nI (cnt dz (k + 1)))), (0, .ref h0)]) hx hb dX1_many_27 hl (k := 1) rfl (nI_1 _) (by decide) rfl (fun ls hl => ?_)
            refine lv_goto (tgt := 4) hx hb dX1_many_30 (by decide) ?_
            exact ih (k + 1) (by omega) ls H locs (lv_sub hl [0, 1, 2] rfl) hP hD hS
          · -- F of pc 17
            exact absurd (by decide) c_3
      | true =>
        refine lv_iload_n hx hb dX1_many_4 rfl (lv_at hl 0 rfl) ?_
        refine lv_bipush (v := 24) hx hb dX1_many_5 (by decide) ?_
        refine lv_icmp_ge (tgt := 33) hx hb dX1_many_7 (by decide) (fun c_4 => ?_) (fun c_4 => ?_)
        · -- T of pc 7
          exact absurd c_4 (show ¬ nI 24 ≤ nI k from nI_ge (by omega) (by decide))
        · -- F of pc 7
          refine lv_iload_n hx hb dX1_many_10 rfl (lv_at hl 1 rfl) ?_
          refine lv_aload_n hx hb dX1_many_11 rfl (lv_at hl 2 rfl) ?_
          refine va_get (ci := 1) (v := .ref a4) (C := RX1) (T := TX1) (N := 10) hx hb hts (by decide +kernel) hown hK hP 0 rfl rfl 3 (by decide) (hts (.fieldLink RX1 19 "CommitLogModel" "dirty" "[Z") (by decide +kernel)) (fun _ h9 => h9) rfl dX1_many_12 ?_
          refine lv_iload_n hx hb dX1_many_15 rfl (lv_at hl 0 rfl) ?_
          refine va_zald hx hb hK hP 4 3 rfl rfl (vp_in_nI (by omega) (by decide)) dX1_many_16 ?_
          refine tp_as (z := 1) (by rw [cl_nI (by omega)]; exact (by rw [hz]; rfl)) ?_
          refine lv_if_eq (tgt := 24) hx hb dX1_many_17 (by decide) (fun c_5 => ?_) (fun c_5 => ?_)
          · -- T of pc 17
            exact absurd c_5 (by decide)
          · -- F of pc 17
            refine lv_iconst (v := 1) hx hb dX1_many_20 (by decide) ?_
            refine lv_goto (tgt := 25) hx hb dX1_many_21 (by decide) ?_
            refine lv_iadd hx hb dX1_many_25 ?_
            refine tp_as (z := nI (cnt dz (k + 1))) (by rw [cnt_t hz]; exact nI_1 _) ?_
            refine lv_istore_n (lv' := [(1, .int (nI (cnt dz (k + 1)))), (2, .int (nI k)), (0, .ref h0)]) hx hb dX1_many_26 rfl hl (by decide) rfl (fun ls hl => ?_)
            refine lv_iinc (v := (nI (k + 1))) (lv' := [(2, .int (nI (k + 1))), (1, .int (nI (cnt dz (k + 1)))), (0, .ref h0)]) hx hb dX1_many_27 hl (k := 1) rfl (nI_1 _) (by decide) rfl (fun ls hl => ?_)
            refine lv_goto (tgt := 4) hx hb dX1_many_30 (by decide) ?_
            exact ih (k + 1) (by omega) ls H locs (lv_sub hl [0, 1, 2] rfl) hP hD hS
  exact loop 24 0 rfl ls _ _ (lv_sub hl [0, 1, 2] rfl) hP hD hS
set_option maxHeartbeats 4000000 in
set_option maxRecDepth 100000 in
theorem c1_loggedMany (l : Launch) (D : va_G) (h0 a1 a2 a3 a4 a5 : Nat) (k1 k2 k3 k4 k5 : ClassId) (gw gd gl : Nat → Int32) (dz lg : Nat → Bool) (of mk : Bool) (la : Nat) (lf : Option Nat) (sh : Nat) : ct_i l yX1_loggedMany wsX1_loggedMany ({ frames := 0, cells := 0, slots := 0, locals := 0 }) D vwCl (MT k1 k2 k3 k4 k5) [.ref h0] (MW h0 a1 a2 a3 a4 a5 k1 k2 k3 k4 k5 gw gd gl dz lg of mk la lf sh) (MW h0 a1 a2 a3 a4 a5 k1 k2 k3 k4 k5 gw gd gl dz lg of mk la lf sh) (nI (cnt lg 24)) := by
  refine ct_i.of (cc := cX1_loggedMany) (maxL := 3) (ty := .int) (by decide) rfl (Nat.le_of_ble_eq_true rfl) rfl ?_
  intro p e s m args below meth c ls A Q hx hb hml hts hown hK hP hD hA hS hl hret
  have hown : s.vm.findClass RX1 = some m.cls := hown
  have hl : lv_has ls 3 [(0, .ref h0)] := hl
  have hP : va_P D vwCl [(h0, .inr (1, [.ref a1, .ref a2, .ref a3, .ref a4, .ref a5, .int (bI of), .int (bI mk), .int (nI la), .int (lfI lf), .int (nI sh)])), (a1, .inl (k1, 384, .inl gw)), (a2, .inl (k2, 384, .inl gd)), (a3, .inl (k3, 384, .inl gl)), (a4, .inl (k4, 24, .inl (fun j => bI (dz j)))), (a5, .inl (k5, 24, .inl (fun j => bI (lg j))))] s.heap := hP
  have hD : va_D A [(h0, .inr (1, [.ref a1, .ref a2, .ref a3, .ref a4, .ref a5, .int (bI of), .int (bI mk), .int (nI la), .int (lfI lf), .int (nI sh)])), (a1, .inl (k1, 384, .inl gw)), (a2, .inl (k2, 384, .inl gd)), (a3, .inl (k3, 384, .inl gl)), (a4, .inl (k4, 24, .inl (fun j => bI (dz j)))), (a5, .inl (k5, 24, .inl (fun j => bI (lg j))))] := hD
  refine lv_iconst (v := 0) hx hb dX1_loggedMany_0 (by decide) ?_
  refine lv_istore_n (lv' := [(1, .int 0), (0, .ref h0)]) hx hb dX1_loggedMany_1 rfl hl (by decide) rfl (fun ls hl => ?_)
  refine lv_iconst (v := 0) hx hb dX1_loggedMany_2 (by decide) ?_
  refine lv_istore_n (lv' := [(2, .int 0), (1, .int 0), (0, .ref h0)]) hx hb dX1_loggedMany_3 rfl hl (by decide) rfl (fun ls hl => ?_)
  have loop : ∀ (n k : Nat), k + n = 24 → ∀ (ls : Array Slot) (H : Heap) (locs : List Loc), lv_has ls 3 [(2, .int (nI k)), (1, .int (nI (cnt lg k))), (0, .ref h0)] → va_P D vwCl [(h0, .inr (1, [.ref a1, .ref a2, .ref a3, .ref a4, .ref a5, .int (bI of), .int (bI mk), .int (nI la), .int (lfI lf), .int (nI sh)])), (a1, .inl (k1, 384, .inl gw)), (a2, .inl (k2, 384, .inl gd)), (a3, .inl (k3, 384, .inl gl)), (a4, .inl (k4, 24, .inl (fun j => bI (dz j)))), (a5, .inl (k5, 24, .inl (fun j => bI (lg j))))] H → va_D A [(h0, .inr (1, [.ref a1, .ref a2, .ref a3, .ref a4, .ref a5, .int (bI of), .int (bI mk), .int (nI la), .int (lfI lf), .int (nI sh)])), (a1, .inl (k1, 384, .inl gw)), (a2, .inl (k2, 384, .inl gd)), (a3, .inl (k3, 384, .inl gl)), (a4, .inl (k4, 24, .inl (fun j => bI (dz j)))), (a5, .inl (k5, 24, .inl (fun j => bI (lg j))))] → va_S A s.heap H locs → W p l e ({ frames := 0, cells := 0, slots := 0, locals := 0 }) s m args below meth c H locs 0 0 Q (F0 m 4 ls []) := by
    intro n
    induction n with
    | zero =>
      intro k hk ls H locs hl hP hD hS
      obtain rfl : k = 24 := by omega
      refine lv_iload_n hx hb dX1_loggedMany_4 rfl (lv_at hl 0 rfl) ?_
      refine lv_bipush (v := 24) hx hb dX1_loggedMany_5 (by decide) ?_
      refine lv_icmp_ge (tgt := 33) hx hb dX1_loggedMany_7 (by decide) (fun c_1 => ?_) (fun c_1 => ?_)
      · -- T of pc 7
        refine lv_iload_n hx hb dX1_loggedMany_33 rfl (lv_at hl 1 rfl) ?_
        exact hret _ _ _ _ _ hP hD hS rfl dX1_loggedMany_34
      · -- F of pc 7
        exact absurd (by decide) c_1
    | succ n ih =>
      intro k hk ls H locs hl hP hD hS
      cases hz : lg k with
      | false =>
        refine lv_iload_n hx hb dX1_loggedMany_4 rfl (lv_at hl 0 rfl) ?_
        refine lv_bipush (v := 24) hx hb dX1_loggedMany_5 (by decide) ?_
        refine lv_icmp_ge (tgt := 33) hx hb dX1_loggedMany_7 (by decide) (fun c_2 => ?_) (fun c_2 => ?_)
        · -- T of pc 7
          exact absurd c_2 (show ¬ nI 24 ≤ nI k from nI_ge (by omega) (by decide))
        · -- F of pc 7
          refine lv_iload_n hx hb dX1_loggedMany_10 rfl (lv_at hl 1 rfl) ?_
          refine lv_aload_n hx hb dX1_loggedMany_11 rfl (lv_at hl 2 rfl) ?_
          refine va_get (ci := 1) (v := .ref a5) (C := RX1) (T := TX1) (N := 10) hx hb hts (by decide +kernel) hown hK hP 0 rfl rfl 4 (by decide) (hts (.fieldLink RX1 23 "CommitLogModel" "logged" "[Z") (by decide +kernel)) (fun _ h9 => h9) rfl dX1_loggedMany_12 ?_
          refine lv_iload_n hx hb dX1_loggedMany_15 rfl (lv_at hl 0 rfl) ?_
          refine va_zald hx hb hK hP 5 4 rfl rfl (vp_in_nI (by omega) (by decide)) dX1_loggedMany_16 ?_
          refine tp_as (z := 0) (by rw [cl_nI (by omega)]; exact (by rw [hz]; rfl)) ?_
          refine lv_if_eq (tgt := 24) hx hb dX1_loggedMany_17 (by decide) (fun c_3 => ?_) (fun c_3 => ?_)
          · -- T of pc 17
            refine lv_iconst (v := 0) hx hb dX1_loggedMany_24 (by decide) ?_
            refine lv_iadd hx hb dX1_loggedMany_25 ?_
            refine tp_as (z := nI (cnt lg (k + 1))) (by rw [cnt_f hz]; exact Int32.add_zero _) ?_
            refine lv_istore_n (lv' := [(1, .int (nI (cnt lg (k + 1)))), (2, .int (nI k)), (0, .ref h0)]) hx hb dX1_loggedMany_26 rfl hl (by decide) rfl (fun ls hl => ?_)
            refine lv_iinc (v := (nI (k + 1))) (lv' := [(2, .int (nI (k + 1))), (1, .int (nI (cnt lg (k + 1)))), (0, .ref h0)]) hx hb dX1_loggedMany_27 hl (k := 1) rfl (nI_1 _) (by decide) rfl (fun ls hl => ?_)
            refine lv_goto (tgt := 4) hx hb dX1_loggedMany_30 (by decide) ?_
            exact ih (k + 1) (by omega) ls H locs (lv_sub hl [0, 1, 2] rfl) hP hD hS
          · -- F of pc 17
            exact absurd (by decide) c_3
      | true =>
        refine lv_iload_n hx hb dX1_loggedMany_4 rfl (lv_at hl 0 rfl) ?_
        refine lv_bipush (v := 24) hx hb dX1_loggedMany_5 (by decide) ?_
        refine lv_icmp_ge (tgt := 33) hx hb dX1_loggedMany_7 (by decide) (fun c_4 => ?_) (fun c_4 => ?_)
        · -- T of pc 7
          exact absurd c_4 (show ¬ nI 24 ≤ nI k from nI_ge (by omega) (by decide))
        · -- F of pc 7
          refine lv_iload_n hx hb dX1_loggedMany_10 rfl (lv_at hl 1 rfl) ?_
          refine lv_aload_n hx hb dX1_loggedMany_11 rfl (lv_at hl 2 rfl) ?_
          refine va_get (ci := 1) (v := .ref a5) (C := RX1) (T := TX1) (N := 10) hx hb hts (by decide +kernel) hown hK hP 0 rfl rfl 4 (by decide) (hts (.fieldLink RX1 23 "CommitLogModel" "logged" "[Z") (by decide +kernel)) (fun _ h9 => h9) rfl dX1_loggedMany_12 ?_
          refine lv_iload_n hx hb dX1_loggedMany_15 rfl (lv_at hl 0 rfl) ?_
          refine va_zald hx hb hK hP 5 4 rfl rfl (vp_in_nI (by omega) (by decide)) dX1_loggedMany_16 ?_
          refine tp_as (z := 1) (by rw [cl_nI (by omega)]; exact (by rw [hz]; rfl)) ?_
          refine lv_if_eq (tgt := 24) hx hb dX1_loggedMany_17 (by decide) (fun c_5 => ?_) (fun c_5 => ?_)
          · -- T of pc 17
            exact absurd c_5 (by decide)
          · -- F of pc 17
            refine lv_iconst (v := 1) hx hb dX1_loggedMany_20 (by decide) ?_
            refine lv_goto (tgt := 25) hx hb dX1_loggedMany_21 (by decide) ?_
            refine lv_iadd hx hb dX1_loggedMany_25 ?_
            refine tp_as (z := nI (cnt lg (k + 1))) (by rw [cnt_t hz]; exact nI_1 _) ?_
            refine lv_istore_n (lv' := [(1, .int (nI (cnt lg (k + 1)))), (2, .int (nI k)), (0, .ref h0)]) hx hb dX1_loggedMany_26 rfl hl (by decide) rfl (fun ls hl => ?_)
            refine lv_iinc (v := (nI (k + 1))) (lv' := [(2, .int (nI (k + 1))), (1, .int (nI (cnt lg (k + 1)))), (0, .ref h0)]) hx hb dX1_loggedMany_27 hl (k := 1) rfl (nI_1 _) (by decide) rfl (fun ls hl => ?_)
            refine lv_goto (tgt := 4) hx hb dX1_loggedMany_30 (by decide) ?_
            exact ih (k + 1) (by omega) ls H locs (lv_sub hl [0, 1, 2] rfl) hP hD hS
  exact loop 24 0 rfl ls _ _ (lv_sub hl [0, 1, 2] rfl) hP hD hS
set_option maxHeartbeats 4000000 in
set_option maxRecDepth 100000 in
theorem c1_note (l : Launch) (D : va_G) (h0 a1 a2 a3 a4 a5 : Nat) (k1 k2 k3 k4 k5 : ClassId) (gw gd gl : Nat → Int32) (dz lg : Nat → Bool) (of mk : Bool) (la : Nat) (lf : Option Nat) (sh : Nat) : ct_v l yX1_note wsX1_note ({ frames := 1, cells := 0, slots := 0, locals := 23 }) D vwCl (MT k1 k2 k3 k4 k5) [.ref h0] (MW h0 a1 a2 a3 a4 a5 k1 k2 k3 k4 k5 gw gd gl dz lg of mk la lf sh) (MW h0 a1 a2 a3 a4 a5 k1 k2 k3 k4 k5 gw gd (ntK gw dz gl 24) dz (lgK dz lg 24) of true la lf sh) := by
  refine ct_v.of (cc := cX1_note) (maxL := 2) (by decide) rfl (Nat.le_of_ble_eq_true rfl) ?_
  intro p e s m args below meth c ls A Q hx hb hml hts hown hK hP hD hA hS hl hret
  have hown : s.vm.findClass RX1 = some m.cls := hown
  have hl : lv_has ls 2 [(0, .ref h0)] := hl
  have hP : va_P D vwCl [(h0, .inr (1, [.ref a1, .ref a2, .ref a3, .ref a4, .ref a5, .int (bI of), .int (bI mk), .int (nI la), .int (lfI lf), .int (nI sh)])), (a1, .inl (k1, 384, .inl gw)), (a2, .inl (k2, 384, .inl gd)), (a3, .inl (k3, 384, .inl gl)), (a4, .inl (k4, 24, .inl (fun j => bI (dz j)))), (a5, .inl (k5, 24, .inl (fun j => bI (lg j))))] s.heap := hP
  have hD : va_D A [(h0, .inr (1, [.ref a1, .ref a2, .ref a3, .ref a4, .ref a5, .int (bI of), .int (bI mk), .int (nI la), .int (lfI lf), .int (nI sh)])), (a1, .inl (k1, 384, .inl gw)), (a2, .inl (k2, 384, .inl gd)), (a3, .inl (k3, 384, .inl gl)), (a4, .inl (k4, 24, .inl (fun j => bI (dz j)))), (a5, .inl (k5, 24, .inl (fun j => bI (lg j))))] := hD
  refine lv_iconst (v := 0) hx hb dX1_note_0 (by decide) ?_
  refine lv_istore_n (lv' := [(1, .int 0), (0, .ref h0)]) hx hb dX1_note_1 rfl hl (by decide) rfl (fun ls hl => ?_)
  have loop : ∀ (n k : Nat), k + n = 24 → ∀ (ls : Array Slot) (H : Heap) (locs : List Loc), lv_has ls 2 [(1, .int (nI k)), (0, .ref h0)] → va_P D vwCl [(h0, .inr (1, [.ref a1, .ref a2, .ref a3, .ref a4, .ref a5, .int (bI of), .int (bI mk), .int (nI la), .int (lfI lf), .int (nI sh)])), (a1, .inl (k1, 384, .inl gw)), (a2, .inl (k2, 384, .inl gd)), (a3, .inl (k3, 384, .inl (ntK gw dz gl k))), (a4, .inl (k4, 24, .inl (fun j => bI (dz j)))), (a5, .inl (k5, 24, .inl (fun j => bI (lgK dz lg k j))))] H → va_D A [(h0, .inr (1, [.ref a1, .ref a2, .ref a3, .ref a4, .ref a5, .int (bI of), .int (bI mk), .int (nI la), .int (lfI lf), .int (nI sh)])), (a1, .inl (k1, 384, .inl gw)), (a2, .inl (k2, 384, .inl gd)), (a3, .inl (k3, 384, .inl (ntK gw dz gl k))), (a4, .inl (k4, 24, .inl (fun j => bI (dz j)))), (a5, .inl (k5, 24, .inl (fun j => bI (lgK dz lg k j))))] → va_S A s.heap H locs → W p l e ({ frames := 1, cells := 0, slots := 0, locals := 23 }) s m args below meth c H locs 0 0 Q (F0 m 2 ls []) := by
    intro n
    induction n with
    | zero =>
      intro k hk ls H locs hl hP hD hS
      obtain rfl : k = 24 := by omega
      refine lv_iload_n hx hb dX1_note_2 rfl (lv_at hl 0 rfl) ?_
      refine lv_bipush (v := 24) hx hb dX1_note_3 (by decide) ?_
      refine lv_icmp_ge (tgt := 47) hx hb dX1_note_5 (by decide) (fun c_1 => ?_) (fun c_1 => ?_)
      · -- T of pc 5
        refine lv_aload_n hx hb dX1_note_47 rfl (lv_at hl 1 rfl) ?_
        refine lv_iconst (v := 1) hx hb dX1_note_48 (by decide) ?_
        refine va_put (ci := 1) (v := .int 1) (ty := .boolean) (C := RX1) (T := TX1) (N := 10) hx hb hts (by decide +kernel) tyX1 tyX1_ok nmX1 hown hK hP hD hS 0 rfl rfl 6 (by decide) (hts (.fieldLink RX1 42 "CommitLogModel" "mark" "Z") (by decide +kernel)) (fun _ h9 => h9) rfl (by decide +kernel) rfl rfl (Nat.le_of_ble_eq_true rfl) dX1_note_49 (fun H locs hP hD hS => ?_)
        have hP : va_P D vwCl [(h0, .inr (1, [.ref a1, .ref a2, .ref a3, .ref a4, .ref a5, .int (bI of), .int 1, .int (nI la), .int (lfI lf), .int (nI sh)])), (a1, .inl (k1, 384, .inl gw)), (a2, .inl (k2, 384, .inl gd)), (a3, .inl (k3, 384, .inl (ntK gw dz gl 24))), (a4, .inl (k4, 24, .inl (fun j => bI (dz j)))), (a5, .inl (k5, 24, .inl (fun j => bI (lgK dz lg 24 j))))] H := hP
        have hD : va_D _ [(h0, .inr (1, [.ref a1, .ref a2, .ref a3, .ref a4, .ref a5, .int (bI of), .int 1, .int (nI la), .int (lfI lf), .int (nI sh)])), (a1, .inl (k1, 384, .inl gw)), (a2, .inl (k2, 384, .inl gd)), (a3, .inl (k3, 384, .inl (ntK gw dz gl 24))), (a4, .inl (k4, 24, .inl (fun j => bI (dz j)))), (a5, .inl (k5, 24, .inl (fun j => bI (lgK dz lg 24 j))))] := hD
        exact hret _ _ _ _ hP hD hS dX1_note_52
      · -- F of pc 5
        exact absurd (by decide) c_1
    | succ n ih =>
      intro k hk ls H locs hl hP hD hS
      cases hz : dz k with
      | false =>
        refine lv_iload_n hx hb dX1_note_2 rfl (lv_at hl 0 rfl) ?_
        refine lv_bipush (v := 24) hx hb dX1_note_3 (by decide) ?_
        refine lv_icmp_ge (tgt := 47) hx hb dX1_note_5 (by decide) (fun c_2 => ?_) (fun c_2 => ?_)
        · -- T of pc 5
          exact absurd c_2 (show ¬ nI 24 ≤ nI k from nI_ge (by omega) (by decide))
        · -- F of pc 5
          refine lv_aload_n hx hb dX1_note_8 rfl (lv_at hl 1 rfl) ?_
          refine va_get (ci := 1) (v := .ref a5) (C := RX1) (T := TX1) (N := 10) hx hb hts (by decide +kernel) hown hK hP 0 rfl rfl 4 (by decide) (hts (.fieldLink RX1 23 "CommitLogModel" "logged" "[Z") (by decide +kernel)) (fun _ h9 => h9) rfl dX1_note_9 ?_
          refine lv_iload_n hx hb dX1_note_12 rfl (lv_at hl 0 rfl) ?_
          refine lv_aload_n hx hb dX1_note_13 rfl (lv_at hl 1 rfl) ?_
          refine va_get (ci := 1) (v := .ref a4) (C := RX1) (T := TX1) (N := 10) hx hb hts (by decide +kernel) hown hK hP 0 rfl rfl 3 (by decide) (hts (.fieldLink RX1 19 "CommitLogModel" "dirty" "[Z") (by decide +kernel)) (fun _ h9 => h9) rfl dX1_note_14 ?_
          refine lv_iload_n hx hb dX1_note_17 rfl (lv_at hl 0 rfl) ?_
          refine va_zald hx hb hK hP 4 3 rfl rfl (vp_in_nI (by omega) (by decide)) dX1_note_18 ?_
          refine tp_as (z := bI  (dz k)) (by show bI (dz (nI k).toNatClampNeg) = _; rw [cl_nI (by omega)]) ?_
          refine va_zast hx hb hK hP hD hS 5 4 rfl rfl (vp_in_nI (by omega) (by decide)) dX1_note_19 (fun H locs hP hD hS => ?_)
          rw [cl_nI (show k < 2 ^ 31 by omega), vn_bI, up_bI, lgK_s] at hP hD
          have hP : va_P D vwCl [(h0, .inr (1, [.ref a1, .ref a2, .ref a3, .ref a4, .ref a5, .int (bI of), .int (bI mk), .int (nI la), .int (lfI lf), .int (nI sh)])), (a1, .inl (k1, 384, .inl gw)), (a2, .inl (k2, 384, .inl gd)), (a3, .inl (k3, 384, .inl (ntK gw dz gl k))), (a4, .inl (k4, 24, .inl (fun j => bI (dz j)))), (a5, .inl (k5, 24, .inl (fun j => bI (lgK dz lg (k + 1) j))))] H := hP
          have hD : va_D _ [(h0, .inr (1, [.ref a1, .ref a2, .ref a3, .ref a4, .ref a5, .int (bI of), .int (bI mk), .int (nI la), .int (lfI lf), .int (nI sh)])), (a1, .inl (k1, 384, .inl gw)), (a2, .inl (k2, 384, .inl gd)), (a3, .inl (k3, 384, .inl (ntK gw dz gl k))), (a4, .inl (k4, 24, .inl (fun j => bI (dz j)))), (a5, .inl (k5, 24, .inl (fun j => bI (lgK dz lg (k + 1) j))))] := hD
          refine lv_aload_n hx hb dX1_note_20 rfl (lv_at hl 1 rfl) ?_
          refine va_get (ci := 1) (v := .ref a4) (C := RX1) (T := TX1) (N := 10) hx hb hts (by decide +kernel) hown hK hP 0 rfl rfl 3 (by decide) (hts (.fieldLink RX1 19 "CommitLogModel" "dirty" "[Z") (by decide +kernel)) (fun _ h9 => h9) rfl dX1_note_21 ?_
          refine lv_iload_n hx hb dX1_note_24 rfl (lv_at hl 0 rfl) ?_
          refine va_zald hx hb hK hP 4 3 rfl rfl (vp_in_nI (by omega) (by decide)) dX1_note_25 ?_
          refine tp_as (z := 0) (by rw [cl_nI (by omega)]; exact (by rw [hz]; rfl)) ?_
          refine lv_if_eq (tgt := 41) hx hb dX1_note_26 (by decide) (fun c_3 => ?_) (fun c_3 => ?_)
          · -- T of pc 26
            have hP : va_P D vwCl [(h0, .inr (1, [.ref a1, .ref a2, .ref a3, .ref a4, .ref a5, .int (bI of), .int (bI mk), .int (nI la), .int (lfI lf), .int (nI sh)])), (a1, .inl (k1, 384, .inl gw)), (a2, .inl (k2, 384, .inl gd)), (a3, .inl (k3, 384, .inl (ntK gw dz gl (k + 1)))), (a4, .inl (k4, 24, .inl (fun j => bI (dz j)))), (a5, .inl (k5, 24, .inl (fun j => bI (lgK dz lg (k + 1) j))))] H := by simp only [ntK, hz, cond_true, cond_false]; exact hP
            have hD : va_D A [(h0, .inr (1, [.ref a1, .ref a2, .ref a3, .ref a4, .ref a5, .int (bI of), .int (bI mk), .int (nI la), .int (lfI lf), .int (nI sh)])), (a1, .inl (k1, 384, .inl gw)), (a2, .inl (k2, 384, .inl gd)), (a3, .inl (k3, 384, .inl (ntK gw dz gl (k + 1)))), (a4, .inl (k4, 24, .inl (fun j => bI (dz j)))), (a5, .inl (k5, 24, .inl (fun j => bI (lgK dz lg (k + 1) j))))] := by simp only [ntK, hz, cond_true, cond_false]; exact hD
            refine lv_iinc (v := (nI (k + 1))) (lv' := [(1, .int (nI (k + 1))), (0, .ref h0)]) hx hb dX1_note_41 hl (k := 0) rfl (nI_1 _) (by decide) rfl (fun ls hl => ?_)
            refine lv_goto (tgt := 2) hx hb dX1_note_44 (by decide) ?_
            exact ih (k + 1) (by omega) ls H locs (lv_sub hl [0, 1] rfl) hP hD hS
          · -- F of pc 26
            exact absurd (by decide) c_3
      | true =>
        refine lv_iload_n hx hb dX1_note_2 rfl (lv_at hl 0 rfl) ?_
        refine lv_bipush (v := 24) hx hb dX1_note_3 (by decide) ?_
        refine lv_icmp_ge (tgt := 47) hx hb dX1_note_5 (by decide) (fun c_4 => ?_) (fun c_4 => ?_)
        · -- T of pc 5
          exact absurd c_4 (show ¬ nI 24 ≤ nI k from nI_ge (by omega) (by decide))
        · -- F of pc 5
          refine lv_aload_n hx hb dX1_note_8 rfl (lv_at hl 1 rfl) ?_
          refine va_get (ci := 1) (v := .ref a5) (C := RX1) (T := TX1) (N := 10) hx hb hts (by decide +kernel) hown hK hP 0 rfl rfl 4 (by decide) (hts (.fieldLink RX1 23 "CommitLogModel" "logged" "[Z") (by decide +kernel)) (fun _ h9 => h9) rfl dX1_note_9 ?_
          refine lv_iload_n hx hb dX1_note_12 rfl (lv_at hl 0 rfl) ?_
          refine lv_aload_n hx hb dX1_note_13 rfl (lv_at hl 1 rfl) ?_
          refine va_get (ci := 1) (v := .ref a4) (C := RX1) (T := TX1) (N := 10) hx hb hts (by decide +kernel) hown hK hP 0 rfl rfl 3 (by decide) (hts (.fieldLink RX1 19 "CommitLogModel" "dirty" "[Z") (by decide +kernel)) (fun _ h9 => h9) rfl dX1_note_14 ?_
          refine lv_iload_n hx hb dX1_note_17 rfl (lv_at hl 0 rfl) ?_
          refine va_zald hx hb hK hP 4 3 rfl rfl (vp_in_nI (by omega) (by decide)) dX1_note_18 ?_
          refine tp_as (z := bI  (dz k)) (by show bI (dz (nI k).toNatClampNeg) = _; rw [cl_nI (by omega)]) ?_
          refine va_zast hx hb hK hP hD hS 5 4 rfl rfl (vp_in_nI (by omega) (by decide)) dX1_note_19 (fun H locs hP hD hS => ?_)
          rw [cl_nI (show k < 2 ^ 31 by omega), vn_bI, up_bI, lgK_s] at hP hD
          have hP : va_P D vwCl [(h0, .inr (1, [.ref a1, .ref a2, .ref a3, .ref a4, .ref a5, .int (bI of), .int (bI mk), .int (nI la), .int (lfI lf), .int (nI sh)])), (a1, .inl (k1, 384, .inl gw)), (a2, .inl (k2, 384, .inl gd)), (a3, .inl (k3, 384, .inl (ntK gw dz gl k))), (a4, .inl (k4, 24, .inl (fun j => bI (dz j)))), (a5, .inl (k5, 24, .inl (fun j => bI (lgK dz lg (k + 1) j))))] H := hP
          have hD : va_D _ [(h0, .inr (1, [.ref a1, .ref a2, .ref a3, .ref a4, .ref a5, .int (bI of), .int (bI mk), .int (nI la), .int (lfI lf), .int (nI sh)])), (a1, .inl (k1, 384, .inl gw)), (a2, .inl (k2, 384, .inl gd)), (a3, .inl (k3, 384, .inl (ntK gw dz gl k))), (a4, .inl (k4, 24, .inl (fun j => bI (dz j)))), (a5, .inl (k5, 24, .inl (fun j => bI (lgK dz lg (k + 1) j))))] := hD
          refine lv_aload_n hx hb dX1_note_20 rfl (lv_at hl 1 rfl) ?_
          refine va_get (ci := 1) (v := .ref a4) (C := RX1) (T := TX1) (N := 10) hx hb hts (by decide +kernel) hown hK hP 0 rfl rfl 3 (by decide) (hts (.fieldLink RX1 19 "CommitLogModel" "dirty" "[Z") (by decide +kernel)) (fun _ h9 => h9) rfl dX1_note_21 ?_
          refine lv_iload_n hx hb dX1_note_24 rfl (lv_at hl 0 rfl) ?_
          refine va_zald hx hb hK hP 4 3 rfl rfl (vp_in_nI (by omega) (by decide)) dX1_note_25 ?_
          refine tp_as (z := 1) (by rw [cl_nI (by omega)]; exact (by rw [hz]; rfl)) ?_
          refine lv_if_eq (tgt := 41) hx hb dX1_note_26 (by decide) (fun c_5 => ?_) (fun c_5 => ?_)
          · -- T of pc 26
            exact absurd c_5 (by decide)
          · -- F of pc 26
            refine lv_aload_n hx hb dX1_note_29 rfl (lv_at hl 1 rfl) ?_
            refine va_get (ci := 1) (v := .ref a1) (C := RX1) (T := TX1) (N := 10) hx hb hts (by decide +kernel) hown hK hP 0 rfl rfl 0 (by decide) (hts (.fieldLink RX1 7 "CommitLogModel" "work" "[B") (by decide +kernel)) (fun _ h9 => h9) rfl dX1_note_30 ?_
            refine lv_aload_n hx hb dX1_note_33 rfl (lv_at hl 1 rfl) ?_
            refine va_get (ci := 1) (v := .ref a3) (C := RX1) (T := TX1) (N := 10) hx hb hts (by decide +kernel) hown hK hP 0 rfl rfl 2 (by decide) (hts (.fieldLink RX1 16 "CommitLogModel" "log" "[B") (by decide +kernel)) (fun _ h9 => h9) rfl dX1_note_34 ?_
            refine lv_iload_n hx hb dX1_note_37 rfl (lv_at hl 0 rfl) ?_
            refine ct_Sv (As := [.ref a1, .ref a3, .int (nI k)]) (rest := []) (wr := [(h0, .inr (1, [.ref a1, .ref a2, .ref a3, .ref a4, .ref a5, .int (bI of), .int (bI mk), .int (nI la), .int (lfI lf), .int (nI sh)])), (a2, .inl (k2, 384, .inl gd)), (a4, .inl (k4, 24, .inl (fun j => bI (dz j)))), (a5, .inl (k5, 24, .inl (fun j => bI (lgK dz lg (k + 1) j))))]) (wn := [(h0, .inr (1, [.ref a1, .ref a2, .ref a3, .ref a4, .ref a5, .int (bI of), .int (bI mk), .int (nI la), .int (lfI lf), .int (nI sh)])), (a1, .inl (k1, 384, .inl gw)), (a2, .inl (k2, 384, .inl gd)), (a3, .inl (k3, 384, .inl (cpK gw (ntK gw dz gl k) k 16))), (a4, .inl (k4, 24, .inl (fun j => bI (dz j)))), (a5, .inl (k5, 24, .inl (fun j => bI (lgK dz lg (k + 1) j))))]) ⟨hx, hb, hml, hown, hts⟩ (c1_copy l D a1 a3 k1 k3 gw (ntK gw dz gl k) k (by omega)) (va_cwS 3 hts gX1_note_X1_copy rfl rfl rfl (by decide +kernel) ⟨Nat.le_of_ble_eq_true rfl, Nat.le_of_ble_eq_true rfl⟩) hK hP hD hS hA [1, 3] [0, 2, 4, 5] [0, 2] [0, 4, 1, 5, 2, 3] rfl rfl (by decide) rfl (by decide) (by decide) rfl (by decide) rfl hl.1 rfl (Nat.le_of_ble_eq_true rfl) dX1_note_38 ⟨Nat.zero_le _, Nat.zero_le _⟩ (fun H locs hP hD hS => ?_)
            have hP : va_P D vwCl [(h0, .inr (1, [.ref a1, .ref a2, .ref a3, .ref a4, .ref a5, .int (bI of), .int (bI mk), .int (nI la), .int (lfI lf), .int (nI sh)])), (a1, .inl (k1, 384, .inl gw)), (a2, .inl (k2, 384, .inl gd)), (a3, .inl (k3, 384, .inl (ntK gw dz gl (k + 1)))), (a4, .inl (k4, 24, .inl (fun j => bI (dz j)))), (a5, .inl (k5, 24, .inl (fun j => bI (lgK dz lg (k + 1) j))))] H := by simp only [ntK, hz, cond_true, cond_false]; exact hP
            have hD : va_D A [(h0, .inr (1, [.ref a1, .ref a2, .ref a3, .ref a4, .ref a5, .int (bI of), .int (bI mk), .int (nI la), .int (lfI lf), .int (nI sh)])), (a1, .inl (k1, 384, .inl gw)), (a2, .inl (k2, 384, .inl gd)), (a3, .inl (k3, 384, .inl (ntK gw dz gl (k + 1)))), (a4, .inl (k4, 24, .inl (fun j => bI (dz j)))), (a5, .inl (k5, 24, .inl (fun j => bI (lgK dz lg (k + 1) j))))] := by simp only [ntK, hz, cond_true, cond_false]; exact hD
            refine lv_iinc (v := (nI (k + 1))) (lv' := [(1, .int (nI (k + 1))), (0, .ref h0)]) hx hb dX1_note_41 hl (k := 0) rfl (nI_1 _) (by decide) rfl (fun ls hl => ?_)
            refine lv_goto (tgt := 2) hx hb dX1_note_44 (by decide) ?_
            exact ih (k + 1) (by omega) ls H locs (lv_sub hl [0, 1] rfl) hP hD hS
  exact loop 24 0 rfl ls _ _ (lv_sub hl [0, 1] rfl) (by rw [lgK_0]; exact hP) (by rw [lgK_0]; exact hD) hS
set_option maxHeartbeats 4000000 in
set_option maxRecDepth 100000 in
theorem c1_lay (l : Launch) (D : va_G) (h0 a1 a2 a3 a4 a5 : Nat) (k1 k2 k3 k4 k5 : ClassId) (gw gd gl : Nat → Int32) (dz lg : Nat → Bool) (of mk : Bool) (la : Nat) (lf : Option Nat) (sh : Nat) (mo : Nat) (hmo : mo ≤ 24) : ct_v l yX1_lay wsX1_lay ({ frames := 1, cells := 0, slots := 0, locals := 23 }) D vwCl (MT k1 k2 k3 k4 k5) [.ref h0, .int (nI mo)] (MW h0 a1 a2 a3 a4 a5 k1 k2 k3 k4 k5 gw gd gl dz lg of mk la lf sh) (MW h0 a1 a2 a3 a4 a5 k1 k2 k3 k4 k5 gw (lyK gl lg mo gd 24) gl dz lg of mk la lf sh) := by
  refine ct_v.of (cc := cX1_lay) (maxL := 4) (by decide) rfl (Nat.le_of_ble_eq_true rfl) ?_
  intro p e s m args below meth c ls A Q hx hb hml hts hown hK hP hD hA hS hl hret
  have hown : s.vm.findClass RX1 = some m.cls := hown
  have hl : lv_has ls 4 [(0, .ref h0), (1, .int (nI mo))] := hl
  have hP : va_P D vwCl [(h0, .inr (1, [.ref a1, .ref a2, .ref a3, .ref a4, .ref a5, .int (bI of), .int (bI mk), .int (nI la), .int (lfI lf), .int (nI sh)])), (a1, .inl (k1, 384, .inl gw)), (a2, .inl (k2, 384, .inl gd)), (a3, .inl (k3, 384, .inl gl)), (a4, .inl (k4, 24, .inl (fun j => bI (dz j)))), (a5, .inl (k5, 24, .inl (fun j => bI (lg j))))] s.heap := hP
  have hD : va_D A [(h0, .inr (1, [.ref a1, .ref a2, .ref a3, .ref a4, .ref a5, .int (bI of), .int (bI mk), .int (nI la), .int (lfI lf), .int (nI sh)])), (a1, .inl (k1, 384, .inl gw)), (a2, .inl (k2, 384, .inl gd)), (a3, .inl (k3, 384, .inl gl)), (a4, .inl (k4, 24, .inl (fun j => bI (dz j)))), (a5, .inl (k5, 24, .inl (fun j => bI (lg j))))] := hD
  refine lv_iconst (v := 0) hx hb dX1_lay_0 (by decide) ?_
  refine lv_istore_n (lv' := [(2, .int 0), (0, .ref h0), (1, .int (nI mo))]) hx hb dX1_lay_1 rfl hl (by decide) rfl (fun ls hl => ?_)
  refine lv_iconst (v := 0) hx hb dX1_lay_2 (by decide) ?_
  refine lv_istore_n (lv' := [(3, .int 0), (2, .int 0), (0, .ref h0), (1, .int (nI mo))]) hx hb dX1_lay_3 rfl hl (by decide) rfl (fun ls hl => ?_)
  have loop : ∀ (n k : Nat), k + n = 24 → ∀ (ls : Array Slot) (H : Heap) (locs : List Loc), lv_has ls 4 [(3, .int (nI k)), (2, .int (nI (cnt lg k))), (1, .int (nI mo)), (0, .ref h0)] → va_P D vwCl [(h0, .inr (1, [.ref a1, .ref a2, .ref a3, .ref a4, .ref a5, .int (bI of), .int (bI mk), .int (nI la), .int (lfI lf), .int (nI sh)])), (a1, .inl (k1, 384, .inl gw)), (a2, .inl (k2, 384, .inl (lyK gl lg mo gd k))), (a3, .inl (k3, 384, .inl gl)), (a4, .inl (k4, 24, .inl (fun j => bI (dz j)))), (a5, .inl (k5, 24, .inl (fun j => bI (lg j))))] H → va_D A [(h0, .inr (1, [.ref a1, .ref a2, .ref a3, .ref a4, .ref a5, .int (bI of), .int (bI mk), .int (nI la), .int (lfI lf), .int (nI sh)])), (a1, .inl (k1, 384, .inl gw)), (a2, .inl (k2, 384, .inl (lyK gl lg mo gd k))), (a3, .inl (k3, 384, .inl gl)), (a4, .inl (k4, 24, .inl (fun j => bI (dz j)))), (a5, .inl (k5, 24, .inl (fun j => bI (lg j))))] → va_S A s.heap H locs → W p l e ({ frames := 1, cells := 0, slots := 0, locals := 23 }) s m args below meth c H locs 0 0 Q (F0 m 4 ls []) := by
    intro n
    induction n with
    | zero =>
      intro k hk ls H locs hl hP hD hS
      obtain rfl : k = 24 := by omega
      refine lv_iload_n hx hb dX1_lay_4 rfl (lv_at hl 0 rfl) ?_
      refine lv_bipush (v := 24) hx hb dX1_lay_5 (by decide) ?_
      refine lv_icmp_ge (tgt := 59) hx hb dX1_lay_7 (by decide) (fun c_1 => ?_) (fun c_1 => ?_)
      · -- T of pc 7
        exact hret _ _ _ _ hP hD hS dX1_lay_59
      · -- F of pc 7
        exact absurd (by decide) c_1
    | succ n ih =>
      intro k hk ls H locs hl hP hD hS
      have hcn := cnt_le lg k
      cases hz : lg k with
      | false =>
        refine lv_iload_n hx hb dX1_lay_4 rfl (lv_at hl 0 rfl) ?_
        refine lv_bipush (v := 24) hx hb dX1_lay_5 (by decide) ?_
        refine lv_icmp_ge (tgt := 59) hx hb dX1_lay_7 (by decide) (fun c_2 => ?_) (fun c_2 => ?_)
        · -- T of pc 7
          exact absurd c_2 (show ¬ nI 24 ≤ nI k from nI_ge (by omega) (by decide))
        · -- F of pc 7
          refine lv_aload_n hx hb dX1_lay_10 rfl (lv_at hl 3 rfl) ?_
          refine va_get (ci := 1) (v := .ref a5) (C := RX1) (T := TX1) (N := 10) hx hb hts (by decide +kernel) hown hK hP 0 rfl rfl 4 (by decide) (hts (.fieldLink RX1 23 "CommitLogModel" "logged" "[Z") (by decide +kernel)) (fun _ h9 => h9) rfl dX1_lay_11 ?_
          refine lv_iload_n hx hb dX1_lay_14 rfl (lv_at hl 0 rfl) ?_
          refine va_zald hx hb hK hP 5 4 rfl rfl (vp_in_nI (by omega) (by decide)) dX1_lay_15 ?_
          refine tp_as (z := 0) (by rw [cl_nI (by omega)]; exact (by rw [hz]; rfl)) ?_
          refine lv_if_eq (tgt := 36) hx hb dX1_lay_16 (by decide) (fun c_3 => ?_) (fun c_3 => ?_)
          · -- T of pc 16
            have hno : ¬ (lg k = true ∧ cnt lg k < mo) := fun q => absurd (hz.symm.trans q.1) (by decide)
            have e1 : lyK gl lg mo gd (k + 1) = lyK gl lg mo gd k := by
              simp only [lyK]; rw [if_neg hno]
            rw [← e1] at hP hD
            have hP : va_P D vwCl [(h0, .inr (1, [.ref a1, .ref a2, .ref a3, .ref a4, .ref a5, .int (bI of), .int (bI mk), .int (nI la), .int (lfI lf), .int (nI sh)])), (a1, .inl (k1, 384, .inl gw)), (a2, .inl (k2, 384, .inl (lyK gl lg mo gd (k + 1)))), (a3, .inl (k3, 384, .inl gl)), (a4, .inl (k4, 24, .inl (fun j => bI (dz j)))), (a5, .inl (k5, 24, .inl (fun j => bI (lg j))))] H := hP
            have hD : va_D _ [(h0, .inr (1, [.ref a1, .ref a2, .ref a3, .ref a4, .ref a5, .int (bI of), .int (bI mk), .int (nI la), .int (lfI lf), .int (nI sh)])), (a1, .inl (k1, 384, .inl gw)), (a2, .inl (k2, 384, .inl (lyK gl lg mo gd (k + 1)))), (a3, .inl (k3, 384, .inl gl)), (a4, .inl (k4, 24, .inl (fun j => bI (dz j)))), (a5, .inl (k5, 24, .inl (fun j => bI (lg j))))] := hD
            refine lv_iload_n hx hb dX1_lay_36 rfl (lv_at hl 1 rfl) ?_
            refine lv_aload_n hx hb dX1_lay_37 rfl (lv_at hl 3 rfl) ?_
            refine va_get (ci := 1) (v := .ref a5) (C := RX1) (T := TX1) (N := 10) hx hb hts (by decide +kernel) hown hK hP 0 rfl rfl 4 (by decide) (hts (.fieldLink RX1 23 "CommitLogModel" "logged" "[Z") (by decide +kernel)) (fun _ h9 => h9) rfl dX1_lay_38 ?_
            refine lv_iload_n hx hb dX1_lay_41 rfl (lv_at hl 0 rfl) ?_
            refine va_zald hx hb hK hP 5 4 rfl rfl (vp_in_nI (by omega) (by decide)) dX1_lay_42 ?_
            refine tp_as (z := 0) (by rw [cl_nI (by omega)]; exact (by rw [hz]; rfl)) ?_
            refine lv_if_eq (tgt := 50) hx hb dX1_lay_43 (by decide) (fun c_4 => ?_) (fun c_4 => ?_)
            · -- T of pc 43
              refine lv_iconst (v := 0) hx hb dX1_lay_50 (by decide) ?_
              refine lv_iadd hx hb dX1_lay_51 ?_
              refine tp_as (z := nI (cnt lg (k + 1))) (by rw [cnt_f hz]; exact Int32.add_zero _) ?_
              refine lv_istore_n (lv' := [(2, .int (nI (cnt lg (k + 1)))), (3, .int (nI k)), (1, .int (nI mo)), (0, .ref h0)]) hx hb dX1_lay_52 rfl hl (by decide) rfl (fun ls hl => ?_)
              refine lv_iinc (v := (nI (k + 1))) (lv' := [(3, .int (nI (k + 1))), (2, .int (nI (cnt lg (k + 1)))), (1, .int (nI mo)), (0, .ref h0)]) hx hb dX1_lay_53 hl (k := 1) rfl (nI_1 _) (by decide) rfl (fun ls hl => ?_)
              refine lv_goto (tgt := 4) hx hb dX1_lay_56 (by decide) ?_
              exact ih (k + 1) (by omega) ls H locs (lv_sub hl [0, 1, 2, 3] rfl) hP hD hS
            · -- F of pc 43
              exact absurd (by decide) c_4
          · -- F of pc 16
            exact absurd rfl c_3
      | true =>
        refine lv_iload_n hx hb dX1_lay_4 rfl (lv_at hl 0 rfl) ?_
        refine lv_bipush (v := 24) hx hb dX1_lay_5 (by decide) ?_
        refine lv_icmp_ge (tgt := 59) hx hb dX1_lay_7 (by decide) (fun c_5 => ?_) (fun c_5 => ?_)
        · -- T of pc 7
          exact absurd c_5 (show ¬ nI 24 ≤ nI k from nI_ge (by omega) (by decide))
        · -- F of pc 7
          refine lv_aload_n hx hb dX1_lay_10 rfl (lv_at hl 3 rfl) ?_
          refine va_get (ci := 1) (v := .ref a5) (C := RX1) (T := TX1) (N := 10) hx hb hts (by decide +kernel) hown hK hP 0 rfl rfl 4 (by decide) (hts (.fieldLink RX1 23 "CommitLogModel" "logged" "[Z") (by decide +kernel)) (fun _ h9 => h9) rfl dX1_lay_11 ?_
          refine lv_iload_n hx hb dX1_lay_14 rfl (lv_at hl 0 rfl) ?_
          refine va_zald hx hb hK hP 5 4 rfl rfl (vp_in_nI (by omega) (by decide)) dX1_lay_15 ?_
          refine tp_as (z := 1) (by rw [cl_nI (by omega)]; exact (by rw [hz]; rfl)) ?_
          refine lv_if_eq (tgt := 36) hx hb dX1_lay_16 (by decide) (fun c_6 => ?_) (fun c_6 => ?_)
          · -- T of pc 16
            exact absurd c_6 (by decide)
          · -- F of pc 16
            refine lv_iload_n hx hb dX1_lay_19 rfl (lv_at hl 1 rfl) ?_
            refine lv_iload_n hx hb dX1_lay_20 rfl (lv_at hl 2 rfl) ?_
            refine lv_icmp_ge (tgt := 36) hx hb dX1_lay_21 (by decide) (fun c_7 => ?_) (fun c_7 => ?_)
            · -- T of pc 21
              have hno : ¬ (lg k = true ∧ cnt lg k < mo) := fun q => absurd ((nI_leI (by omega) (by omega)).mp c_7) (by omega)
              have e1 : lyK gl lg mo gd (k + 1) = lyK gl lg mo gd k := by
                simp only [lyK]; rw [if_neg hno]
              rw [← e1] at hP hD
              have hP : va_P D vwCl [(h0, .inr (1, [.ref a1, .ref a2, .ref a3, .ref a4, .ref a5, .int (bI of), .int (bI mk), .int (nI la), .int (lfI lf), .int (nI sh)])), (a1, .inl (k1, 384, .inl gw)), (a2, .inl (k2, 384, .inl (lyK gl lg mo gd (k + 1)))), (a3, .inl (k3, 384, .inl gl)), (a4, .inl (k4, 24, .inl (fun j => bI (dz j)))), (a5, .inl (k5, 24, .inl (fun j => bI (lg j))))] H := hP
              have hD : va_D _ [(h0, .inr (1, [.ref a1, .ref a2, .ref a3, .ref a4, .ref a5, .int (bI of), .int (bI mk), .int (nI la), .int (lfI lf), .int (nI sh)])), (a1, .inl (k1, 384, .inl gw)), (a2, .inl (k2, 384, .inl (lyK gl lg mo gd (k + 1)))), (a3, .inl (k3, 384, .inl gl)), (a4, .inl (k4, 24, .inl (fun j => bI (dz j)))), (a5, .inl (k5, 24, .inl (fun j => bI (lg j))))] := hD
              refine lv_iload_n hx hb dX1_lay_36 rfl (lv_at hl 1 rfl) ?_
              refine lv_aload_n hx hb dX1_lay_37 rfl (lv_at hl 3 rfl) ?_
              refine va_get (ci := 1) (v := .ref a5) (C := RX1) (T := TX1) (N := 10) hx hb hts (by decide +kernel) hown hK hP 0 rfl rfl 4 (by decide) (hts (.fieldLink RX1 23 "CommitLogModel" "logged" "[Z") (by decide +kernel)) (fun _ h9 => h9) rfl dX1_lay_38 ?_
              refine lv_iload_n hx hb dX1_lay_41 rfl (lv_at hl 0 rfl) ?_
              refine va_zald hx hb hK hP 5 4 rfl rfl (vp_in_nI (by omega) (by decide)) dX1_lay_42 ?_
              refine tp_as (z := 1) (by rw [cl_nI (by omega)]; exact (by rw [hz]; rfl)) ?_
              refine lv_if_eq (tgt := 50) hx hb dX1_lay_43 (by decide) (fun c_8 => ?_) (fun c_8 => ?_)
              · -- T of pc 43
                exact absurd c_8 (by decide)
              · -- F of pc 43
                refine lv_iconst (v := 1) hx hb dX1_lay_46 (by decide) ?_
                refine lv_goto (tgt := 51) hx hb dX1_lay_47 (by decide) ?_
                refine lv_iadd hx hb dX1_lay_51 ?_
                refine tp_as (z := nI (cnt lg (k + 1))) (by rw [cnt_t hz]; exact nI_1 _) ?_
                refine lv_istore_n (lv' := [(2, .int (nI (cnt lg (k + 1)))), (3, .int (nI k)), (1, .int (nI mo)), (0, .ref h0)]) hx hb dX1_lay_52 rfl hl (by decide) rfl (fun ls hl => ?_)
                refine lv_iinc (v := (nI (k + 1))) (lv' := [(3, .int (nI (k + 1))), (2, .int (nI (cnt lg (k + 1)))), (1, .int (nI mo)), (0, .ref h0)]) hx hb dX1_lay_53 hl (k := 1) rfl (nI_1 _) (by decide) rfl (fun ls hl => ?_)
                refine lv_goto (tgt := 4) hx hb dX1_lay_56 (by decide) ?_
                exact ih (k + 1) (by omega) ls H locs (lv_sub hl [0, 1, 2, 3] rfl) hP hD hS
            · -- F of pc 21
              have hlt : cnt lg k < mo := by
                rcases Nat.lt_or_ge (cnt lg k) mo with q | q
                · exact q
                · exact absurd (nI_le q (by omega)) c_7
              refine lv_aload_n hx hb dX1_lay_24 rfl (lv_at hl 3 rfl) ?_
              refine va_get (ci := 1) (v := .ref a3) (C := RX1) (T := TX1) (N := 10) hx hb hts (by decide +kernel) hown hK hP 0 rfl rfl 2 (by decide) (hts (.fieldLink RX1 16 "CommitLogModel" "log" "[B") (by decide +kernel)) (fun _ h9 => h9) rfl dX1_lay_25 ?_
              refine lv_aload_n hx hb dX1_lay_28 rfl (lv_at hl 3 rfl) ?_
              refine va_get (ci := 1) (v := .ref a2) (C := RX1) (T := TX1) (N := 10) hx hb hts (by decide +kernel) hown hK hP 0 rfl rfl 1 (by decide) (hts (.fieldLink RX1 13 "CommitLogModel" "disk" "[B") (by decide +kernel)) (fun _ h9 => h9) rfl dX1_lay_29 ?_
              refine lv_iload_n hx hb dX1_lay_32 rfl (lv_at hl 0 rfl) ?_
              refine ct_Sv (As := [.ref a3, .ref a2, .int (nI k)]) (rest := []) (wr := [(h0, .inr (1, [.ref a1, .ref a2, .ref a3, .ref a4, .ref a5, .int (bI of), .int (bI mk), .int (nI la), .int (lfI lf), .int (nI sh)])), (a1, .inl (k1, 384, .inl gw)), (a4, .inl (k4, 24, .inl (fun j => bI (dz j)))), (a5, .inl (k5, 24, .inl (fun j => bI (lg j))))]) (wn := [(h0, .inr (1, [.ref a1, .ref a2, .ref a3, .ref a4, .ref a5, .int (bI of), .int (bI mk), .int (nI la), .int (lfI lf), .int (nI sh)])), (a1, .inl (k1, 384, .inl gw)), (a2, .inl (k2, 384, .inl (cpK gl (lyK gl lg mo gd k) k 16))), (a3, .inl (k3, 384, .inl gl)), (a4, .inl (k4, 24, .inl (fun j => bI (dz j)))), (a5, .inl (k5, 24, .inl (fun j => bI (lg j))))]) ⟨hx, hb, hml, hown, hts⟩ (c1_copy l D a3 a2 k3 k2 gl (lyK gl lg mo gd k) k (by omega)) (va_cwS 3 hts gX1_lay_X1_copy rfl rfl rfl (by decide +kernel) ⟨Nat.le_of_ble_eq_true rfl, Nat.le_of_ble_eq_true rfl⟩) hK hP hD hS hA [3, 2] [0, 1, 4, 5] [2, 1] [0, 1, 5, 4, 2, 3] rfl rfl (by decide) rfl (by decide) (by decide) rfl (by decide) rfl hl.1 rfl (Nat.le_of_ble_eq_true rfl) dX1_lay_33 ⟨Nat.zero_le _, Nat.zero_le _⟩ (fun H locs hP hD hS => ?_)
              have e1 : lyK gl lg mo gd (k + 1) = cpK gl (lyK gl lg mo gd k) k 16 := by
                simp only [lyK]; rw [if_pos ⟨hz, hlt⟩]
              rw [← e1] at hP hD
              have hP : va_P D vwCl [(h0, .inr (1, [.ref a1, .ref a2, .ref a3, .ref a4, .ref a5, .int (bI of), .int (bI mk), .int (nI la), .int (lfI lf), .int (nI sh)])), (a1, .inl (k1, 384, .inl gw)), (a2, .inl (k2, 384, .inl (lyK gl lg mo gd (k + 1)))), (a3, .inl (k3, 384, .inl gl)), (a4, .inl (k4, 24, .inl (fun j => bI (dz j)))), (a5, .inl (k5, 24, .inl (fun j => bI (lg j))))] H := hP
              have hD : va_D _ [(h0, .inr (1, [.ref a1, .ref a2, .ref a3, .ref a4, .ref a5, .int (bI of), .int (bI mk), .int (nI la), .int (lfI lf), .int (nI sh)])), (a1, .inl (k1, 384, .inl gw)), (a2, .inl (k2, 384, .inl (lyK gl lg mo gd (k + 1)))), (a3, .inl (k3, 384, .inl gl)), (a4, .inl (k4, 24, .inl (fun j => bI (dz j)))), (a5, .inl (k5, 24, .inl (fun j => bI (lg j))))] := hD
              refine lv_iload_n hx hb dX1_lay_36 rfl (lv_at hl 1 rfl) ?_
              refine lv_aload_n hx hb dX1_lay_37 rfl (lv_at hl 3 rfl) ?_
              refine va_get (ci := 1) (v := .ref a5) (C := RX1) (T := TX1) (N := 10) hx hb hts (by decide +kernel) hown hK hP 0 rfl rfl 4 (by decide) (hts (.fieldLink RX1 23 "CommitLogModel" "logged" "[Z") (by decide +kernel)) (fun _ h9 => h9) rfl dX1_lay_38 ?_
              refine lv_iload_n hx hb dX1_lay_41 rfl (lv_at hl 0 rfl) ?_
              refine va_zald hx hb hK hP 5 4 rfl rfl (vp_in_nI (by omega) (by decide)) dX1_lay_42 ?_
              refine tp_as (z := 1) (by rw [cl_nI (by omega)]; exact (by rw [hz]; rfl)) ?_
              refine lv_if_eq (tgt := 50) hx hb dX1_lay_43 (by decide) (fun c_9 => ?_) (fun c_9 => ?_)
              · -- T of pc 43
                exact absurd c_9 (by decide)
              · -- F of pc 43
                refine lv_iconst (v := 1) hx hb dX1_lay_46 (by decide) ?_
                refine lv_goto (tgt := 51) hx hb dX1_lay_47 (by decide) ?_
                refine lv_iadd hx hb dX1_lay_51 ?_
                refine tp_as (z := nI (cnt lg (k + 1))) (by rw [cnt_t hz]; exact nI_1 _) ?_
                refine lv_istore_n (lv' := [(2, .int (nI (cnt lg (k + 1)))), (3, .int (nI k)), (1, .int (nI mo)), (0, .ref h0)]) hx hb dX1_lay_52 rfl hl (by decide) rfl (fun ls hl => ?_)
                refine lv_iinc (v := (nI (k + 1))) (lv' := [(3, .int (nI (k + 1))), (2, .int (nI (cnt lg (k + 1)))), (1, .int (nI mo)), (0, .ref h0)]) hx hb dX1_lay_53 hl (k := 1) rfl (nI_1 _) (by decide) rfl (fun ls hl => ?_)
                refine lv_goto (tgt := 4) hx hb dX1_lay_56 (by decide) ?_
                exact ih (k + 1) (by omega) ls H locs (lv_sub hl [0, 1, 2, 3] rfl) hP hD hS
  exact loop 24 0 rfl ls _ _ (lv_sub hl [0, 1, 3, 2] rfl) hP hD hS
set_option maxHeartbeats 4000000 in
set_option maxRecDepth 100000 in
theorem c1_fresh (l : Launch) (D : va_G) (h0 a1 a2 a3 a4 a5 : Nat) (k1 k2 k3 k4 k5 : ClassId) (gw gd gl : Nat → Int32) (dz lg : Nat → Bool) (of mk : Bool) (la : Nat) (lf : Option Nat) (sh : Nat) : ct_v l yX1_fresh wsX1_fresh ({ frames := 1, cells := 0, slots := 0, locals := 23 }) D vwCl (MT k1 k2 k3 k4 k5) [.ref h0] (MW h0 a1 a2 a3 a4 a5 k1 k2 k3 k4 k5 gw gd gl dz lg of mk la lf sh) (MW h0 a1 a2 a3 a4 a5 k1 k2 k3 k4 k5 (frK gd gw 24) gd gl (clr dz 24) lg of mk la lf sh) := by
  refine ct_v.of (cc := cX1_fresh) (maxL := 2) (by decide) rfl (Nat.le_of_ble_eq_true rfl) ?_
  intro p e s m args below meth c ls A Q hx hb hml hts hown hK hP hD hA hS hl hret
  have hown : s.vm.findClass RX1 = some m.cls := hown
  have hl : lv_has ls 2 [(0, .ref h0)] := hl
  have hP : va_P D vwCl [(h0, .inr (1, [.ref a1, .ref a2, .ref a3, .ref a4, .ref a5, .int (bI of), .int (bI mk), .int (nI la), .int (lfI lf), .int (nI sh)])), (a1, .inl (k1, 384, .inl gw)), (a2, .inl (k2, 384, .inl gd)), (a3, .inl (k3, 384, .inl gl)), (a4, .inl (k4, 24, .inl (fun j => bI (dz j)))), (a5, .inl (k5, 24, .inl (fun j => bI (lg j))))] s.heap := hP
  have hD : va_D A [(h0, .inr (1, [.ref a1, .ref a2, .ref a3, .ref a4, .ref a5, .int (bI of), .int (bI mk), .int (nI la), .int (lfI lf), .int (nI sh)])), (a1, .inl (k1, 384, .inl gw)), (a2, .inl (k2, 384, .inl gd)), (a3, .inl (k3, 384, .inl gl)), (a4, .inl (k4, 24, .inl (fun j => bI (dz j)))), (a5, .inl (k5, 24, .inl (fun j => bI (lg j))))] := hD
  refine lv_iconst (v := 0) hx hb dX1_fresh_0 (by decide) ?_
  refine lv_istore_n (lv' := [(1, .int 0), (0, .ref h0)]) hx hb dX1_fresh_1 rfl hl (by decide) rfl (fun ls hl => ?_)
  have loop : ∀ (n k : Nat), k + n = 24 → ∀ (ls : Array Slot) (H : Heap) (locs : List Loc), lv_has ls 2 [(1, .int (nI k)), (0, .ref h0)] → va_P D vwCl [(h0, .inr (1, [.ref a1, .ref a2, .ref a3, .ref a4, .ref a5, .int (bI of), .int (bI mk), .int (nI la), .int (lfI lf), .int (nI sh)])), (a1, .inl (k1, 384, .inl (frK gd gw k))), (a2, .inl (k2, 384, .inl gd)), (a3, .inl (k3, 384, .inl gl)), (a4, .inl (k4, 24, .inl (fun j => bI (clr dz k j)))), (a5, .inl (k5, 24, .inl (fun j => bI (lg j))))] H → va_D A [(h0, .inr (1, [.ref a1, .ref a2, .ref a3, .ref a4, .ref a5, .int (bI of), .int (bI mk), .int (nI la), .int (lfI lf), .int (nI sh)])), (a1, .inl (k1, 384, .inl (frK gd gw k))), (a2, .inl (k2, 384, .inl gd)), (a3, .inl (k3, 384, .inl gl)), (a4, .inl (k4, 24, .inl (fun j => bI (clr dz k j)))), (a5, .inl (k5, 24, .inl (fun j => bI (lg j))))] → va_S A s.heap H locs → W p l e ({ frames := 1, cells := 0, slots := 0, locals := 23 }) s m args below meth c H locs 0 0 Q (F0 m 2 ls []) := by
    intro n
    induction n with
    | zero =>
      intro k hk ls H locs hl hP hD hS
      obtain rfl : k = 24 := by omega
      refine lv_iload_n hx hb dX1_fresh_2 rfl (lv_at hl 0 rfl) ?_
      refine lv_bipush (v := 24) hx hb dX1_fresh_3 (by decide) ?_
      refine lv_icmp_ge (tgt := 33) hx hb dX1_fresh_5 (by decide) (fun c_1 => ?_) (fun c_1 => ?_)
      · -- T of pc 5
        exact hret _ _ _ _ hP hD hS dX1_fresh_33
      · -- F of pc 5
        exact absurd (by decide) c_1
    | succ n ih =>
      intro k hk ls H locs hl hP hD hS
      refine lv_iload_n hx hb dX1_fresh_2 rfl (lv_at hl 0 rfl) ?_
      refine lv_bipush (v := 24) hx hb dX1_fresh_3 (by decide) ?_
      refine lv_icmp_ge (tgt := 33) hx hb dX1_fresh_5 (by decide) (fun c_2 => ?_) (fun c_2 => ?_)
      · -- T of pc 5
        exact absurd c_2 (show ¬ nI 24 ≤ nI k from nI_ge (by omega) (by decide))
      · -- F of pc 5
        refine lv_aload_n hx hb dX1_fresh_8 rfl (lv_at hl 1 rfl) ?_
        refine va_get (ci := 1) (v := .ref a2) (C := RX1) (T := TX1) (N := 10) hx hb hts (by decide +kernel) hown hK hP 0 rfl rfl 1 (by decide) (hts (.fieldLink RX1 13 "CommitLogModel" "disk" "[B") (by decide +kernel)) (fun _ h9 => h9) rfl dX1_fresh_9 ?_
        refine lv_aload_n hx hb dX1_fresh_12 rfl (lv_at hl 1 rfl) ?_
        refine va_get (ci := 1) (v := .ref a1) (C := RX1) (T := TX1) (N := 10) hx hb hts (by decide +kernel) hown hK hP 0 rfl rfl 0 (by decide) (hts (.fieldLink RX1 7 "CommitLogModel" "work" "[B") (by decide +kernel)) (fun _ h9 => h9) rfl dX1_fresh_13 ?_
        refine lv_iload_n hx hb dX1_fresh_16 rfl (lv_at hl 0 rfl) ?_
        refine ct_Sv (As := [.ref a2, .ref a1, .int (nI k)]) (rest := []) (wr := [(h0, .inr (1, [.ref a1, .ref a2, .ref a3, .ref a4, .ref a5, .int (bI of), .int (bI mk), .int (nI la), .int (lfI lf), .int (nI sh)])), (a3, .inl (k3, 384, .inl gl)), (a4, .inl (k4, 24, .inl (fun j => bI (clr dz k j)))), (a5, .inl (k5, 24, .inl (fun j => bI (lg j))))]) (wn := [(h0, .inr (1, [.ref a1, .ref a2, .ref a3, .ref a4, .ref a5, .int (bI of), .int (bI mk), .int (nI la), .int (lfI lf), .int (nI sh)])), (a1, .inl (k1, 384, .inl (cpK gd (frK gd gw k) k 16))), (a2, .inl (k2, 384, .inl gd)), (a3, .inl (k3, 384, .inl gl)), (a4, .inl (k4, 24, .inl (fun j => bI (clr dz k j)))), (a5, .inl (k5, 24, .inl (fun j => bI (lg j))))]) ⟨hx, hb, hml, hown, hts⟩ (c1_copy l D a2 a1 k2 k1 gd (frK gd gw k) k (by omega)) (va_cwS 3 hts gX1_fresh_X1_copy rfl rfl rfl (by decide +kernel) ⟨Nat.le_of_ble_eq_true rfl, Nat.le_of_ble_eq_true rfl⟩) hK hP hD hS hA [2, 1] [0, 3, 4, 5] [1, 0] [0, 5, 4, 1, 2, 3] rfl rfl (by decide) rfl (by decide) (by decide) rfl (by decide) rfl hl.1 rfl (Nat.le_of_ble_eq_true rfl) dX1_fresh_17 ⟨Nat.zero_le _, Nat.zero_le _⟩ (fun H locs hP hD hS => ?_)
        have hP : va_P D vwCl [(h0, .inr (1, [.ref a1, .ref a2, .ref a3, .ref a4, .ref a5, .int (bI of), .int (bI mk), .int (nI la), .int (lfI lf), .int (nI sh)])), (a1, .inl (k1, 384, .inl (frK gd gw (k + 1)))), (a2, .inl (k2, 384, .inl gd)), (a3, .inl (k3, 384, .inl gl)), (a4, .inl (k4, 24, .inl (fun j => bI (clr dz k j)))), (a5, .inl (k5, 24, .inl (fun j => bI (lg j))))] H := hP
        have hD : va_D _ [(h0, .inr (1, [.ref a1, .ref a2, .ref a3, .ref a4, .ref a5, .int (bI of), .int (bI mk), .int (nI la), .int (lfI lf), .int (nI sh)])), (a1, .inl (k1, 384, .inl (frK gd gw (k + 1)))), (a2, .inl (k2, 384, .inl gd)), (a3, .inl (k3, 384, .inl gl)), (a4, .inl (k4, 24, .inl (fun j => bI (clr dz k j)))), (a5, .inl (k5, 24, .inl (fun j => bI (lg j))))] := hD
        refine lv_aload_n hx hb dX1_fresh_20 rfl (lv_at hl 1 rfl) ?_
        refine va_get (ci := 1) (v := .ref a4) (C := RX1) (T := TX1) (N := 10) hx hb hts (by decide +kernel) hown hK hP 0 rfl rfl 3 (by decide) (hts (.fieldLink RX1 19 "CommitLogModel" "dirty" "[Z") (by decide +kernel)) (fun _ h9 => h9) rfl dX1_fresh_21 ?_
        refine lv_iload_n hx hb dX1_fresh_24 rfl (lv_at hl 0 rfl) ?_
        refine lv_iconst (v := 0) hx hb dX1_fresh_25 (by decide) ?_
        refine va_zast hx hb hK hP hD hS 4 3 rfl rfl (vp_in_nI (by omega) (by decide)) dX1_fresh_26 (fun H locs hP hD hS => ?_)
        rw [cl_nI (show k < 2 ^ 31 by omega), show vp_nar .boolean 0 = bI false from rfl, up_bI, clr_s] at hP hD
        have hP : va_P D vwCl [(h0, .inr (1, [.ref a1, .ref a2, .ref a3, .ref a4, .ref a5, .int (bI of), .int (bI mk), .int (nI la), .int (lfI lf), .int (nI sh)])), (a1, .inl (k1, 384, .inl (frK gd gw (k + 1)))), (a2, .inl (k2, 384, .inl gd)), (a3, .inl (k3, 384, .inl gl)), (a4, .inl (k4, 24, .inl (fun j => bI (clr dz (k + 1) j)))), (a5, .inl (k5, 24, .inl (fun j => bI (lg j))))] H := hP
        have hD : va_D _ [(h0, .inr (1, [.ref a1, .ref a2, .ref a3, .ref a4, .ref a5, .int (bI of), .int (bI mk), .int (nI la), .int (lfI lf), .int (nI sh)])), (a1, .inl (k1, 384, .inl (frK gd gw (k + 1)))), (a2, .inl (k2, 384, .inl gd)), (a3, .inl (k3, 384, .inl gl)), (a4, .inl (k4, 24, .inl (fun j => bI (clr dz (k + 1) j)))), (a5, .inl (k5, 24, .inl (fun j => bI (lg j))))] := hD
        refine lv_iinc (v := (nI (k + 1))) (lv' := [(1, .int (nI (k + 1))), (0, .ref h0)]) hx hb dX1_fresh_27 hl (k := 0) rfl (nI_1 _) (by decide) rfl (fun ls hl => ?_)
        refine lv_goto (tgt := 2) hx hb dX1_fresh_30 (by decide) ?_
        exact ih (k + 1) (by omega) ls H locs (lv_sub hl [0, 1] rfl) hP hD hS
  exact loop 24 0 rfl ls _ _ (lv_sub hl [0, 1] rfl) (by rw [clr_0]; exact hP) (by rw [clr_0]; exact hD) hS
end
section
/-! The reference: its public methods but commit and start. -/
theorem inR_ix (n : Nat) (hn : n < 2 ^ 31) (hi : Int32) (h : hi.toInt = (n : Int) - 1) (x : Int32) : inR 0 hi x = (ix n x).isSome := by
  have e0 : (0 : Int32).toInt = 0 := rfl
  rcases ix_cases n hn x with ⟨e, h1⟩ | ⟨j, hj, rfl, e⟩
  · rw [e]
    rcases h1 with h1 | h1
    · simp [inR, h1]
    · have h2 : hi < x := by
        rw [Int32.le_iff_toInt_le, nI_toInt hn] at h1
        rw [Int32.lt_iff_toInt_lt]; omega
      simp [inR, h2]
  · rw [e]
    have h1 : ¬ nI j < 0 := nI_pos (by omega)
    have h2 : ¬ hi < nI j := by
      rw [Int32.lt_iff_toInt_lt, nI_toInt (by omega)]; omega
    simp [inR, h1, h2]
theorem inR_1k (x : Int32) : inR 1 1000 x = (match ix 1001 x with | some (_ + 1) => true | _ => false) := by
  have e0 : (0 : Int32).toInt = 0 := rfl
  have e1 : (1 : Int32).toInt = 1 := rfl
  have e2 : (1000 : Int32).toInt = 1000 := rfl
  rcases ix_cases 1001 (by decide) x with ⟨e, h1⟩ | ⟨j, hj, rfl, e⟩
  · rw [e]
    rcases h1 with h1 | h1
    · have h2 : x < 1 := by
        rw [Int32.lt_iff_toInt_lt] at h1 ⊢; omega
      simp [inR, h2]
    · have h2 : 1000 < x := by
        rw [Int32.le_iff_toInt_le, nI_toInt (by decide)] at h1
        rw [Int32.lt_iff_toInt_lt]; omega
      simp [inR, h2]
  · rw [e]
    match j, hj with
    | 0, _ => rfl
    | k + 1, hj =>
      have h1 : ¬ nI (k + 1) < 1 := by
        rw [Int32.lt_iff_toInt_lt, nI_toInt (by omega)]; omega
      have h2 : ¬ 1000 < nI (k + 1) := by
        rw [Int32.lt_iff_toInt_lt, nI_toInt (by omega)]; omega
      simp [inR, h1, h2]
def mwr (gw : Nat → Int32) (dz : Nat → Bool) (of : Bool) (b q v : Int32) : (Nat → Int32) × (Nat → Bool) × Bool := match of, ix 24 b, ix 16 q with
  | false, some i, some j => (upd gw (i * 16 + j) v.toInt8.toInt32, va_up dz i true, true)
  | _, _, _ => (gw, dz, false)
def mrd (of : Bool) (f : Nat → Int32) (b q : Int32) : Int32 := match of, ix 24 b, ix 16 q with
  | false, some i, some j => f (i * 16 + j) &&& 255
  | _, _, _ => -1
def mdt (of : Bool) (dz : Nat → Bool) (b : Int32) : Bool := match of, ix 24 b with
  | false, some i => dz i
  | _, _ => false
def mct (of : Bool) (lf : Option Nat) (sh : Nat) (n t : Int32) : Option Nat × Nat × Bool := match of, ix 1001 n, ix 1000 t with
  | false, some (k + 1), some j => (some (k + 1), j, true)
  | _, _, _ => (lf, sh, false)
def mst (of mk : Bool) (la : Nat) (x : Int32) : Int32 := match ix 3 x with
  | some 0 => bI (!of)
  | some 1 => bI mk
  | some 2 => nI la
  | _ => -1
theorem bn_0 {b : Bool} (h : ¬ bI b = 0) : 0 = bI (!b) := by rw [dz_t h]; rfl
theorem bn_1 {b : Bool} (h : bI b = 0) : 1 = bI (!b) := by rw [dz_f h]; rfl
set_option maxHeartbeats 4000000 in
set_option maxRecDepth 100000 in
theorem c1_isPlace (l : Launch) (D : va_G) (b q : Int32) : ct_i l yX1_isPlace wsX1_isPlace ({ frames := 1, cells := 0, slots := 0, locals := 22 }) D vwCl [] [.int b, .int q] [] [] (bI ((ix 24 b).isSome && (ix 16 q).isSome)) := by
  rcases ix_cases 24 (by decide) b with ⟨e1, -⟩ | ⟨i, hi, rfl, e1⟩
  · rw [e1]
    refine ct_i.of (cc := cX1_isPlace) (maxL := 2) (ty := .boolean) (by decide) rfl (Nat.le_of_ble_eq_true rfl) (nb_bI _) ?_
    intro p e s m args below meth c ls A Q hx hb hml hts hown hK hP hD hA hS hl hret
    have hown : s.vm.findClass RX1 = some m.cls := hown
    have hl : lv_has ls 2 [(0, .int b), (1, .int q)] := hl
    have hP : va_P D vwCl [] s.heap := hP
    have hD : va_D A [] := hD
    refine lv_iload_n hx hb dX1_isPlace_0 rfl (lv_at hl 0 rfl) ?_
    refine lv_iconst (v := 0) hx hb dX1_isPlace_1 (by decide) ?_
    refine lv_bipush (v := 23) hx hb dX1_isPlace_2 (by decide) ?_
    refine ct_Si (As := [.int b, .int 0, .int 23]) (rest := []) (wr := []) (wn := []) ⟨hx, hb, hml, hown, hts⟩ (c1_in l D b 0 23) (va_cwS 3 hts gX1_isPlace_X1_in rfl rfl rfl (by decide +kernel) ⟨Nat.le_of_ble_eq_true rfl, Nat.le_of_ble_eq_true rfl⟩) hK hP hD hS hA [] [] [] [] rfl rfl (by decide) rfl (by decide) (by decide) rfl (by decide) rfl hl.1 rfl (Nat.le_of_ble_eq_true rfl) dX1_isPlace_4 ⟨Nat.zero_le _, Nat.zero_le _⟩ (fun H locs hP hD hS => ?_)
    refine tp_as (z := 0) (by rw [inR_ix 24 (by decide) 23 rfl _, e1]; rfl) ?_
    refine lv_if_eq (tgt := 24) hx hb dX1_isPlace_7 (by decide) (fun c_1 => ?_) (fun c_1 => ?_)
    · -- T of pc 7
      refine lv_iconst (v := 0) hx hb dX1_isPlace_24 (by decide) ?_
      exact hret _ _ _ _ _ hP hD hS rfl dX1_isPlace_25
    · -- F of pc 7
      exact absurd (by decide) c_1
  · rcases ix_cases 16 (by decide) q with ⟨e2, -⟩ | ⟨j, hj, rfl, e2⟩
    · rw [e1, e2]
      refine ct_i.of (cc := cX1_isPlace) (maxL := 2) (ty := .boolean) (by decide) rfl (Nat.le_of_ble_eq_true rfl) (nb_bI _) ?_
      intro p e s m args below meth c ls A Q hx hb hml hts hown hK hP hD hA hS hl hret
      have hown : s.vm.findClass RX1 = some m.cls := hown
      have hl : lv_has ls 2 [(0, .int (nI i)), (1, .int q)] := hl
      have hP : va_P D vwCl [] s.heap := hP
      have hD : va_D A [] := hD
      refine lv_iload_n hx hb dX1_isPlace_0 rfl (lv_at hl 0 rfl) ?_
      refine lv_iconst (v := 0) hx hb dX1_isPlace_1 (by decide) ?_
      refine lv_bipush (v := 23) hx hb dX1_isPlace_2 (by decide) ?_
      refine ct_Si (As := [.int (nI i), .int 0, .int 23]) (rest := []) (wr := []) (wn := []) ⟨hx, hb, hml, hown, hts⟩ (c1_in l D (nI i) 0 23) (va_cwS 3 hts gX1_isPlace_X1_in rfl rfl rfl (by decide +kernel) ⟨Nat.le_of_ble_eq_true rfl, Nat.le_of_ble_eq_true rfl⟩) hK hP hD hS hA [] [] [] [] rfl rfl (by decide) rfl (by decide) (by decide) rfl (by decide) rfl hl.1 rfl (Nat.le_of_ble_eq_true rfl) dX1_isPlace_4 ⟨Nat.zero_le _, Nat.zero_le _⟩ (fun H locs hP hD hS => ?_)
      refine tp_as (z := 1) (by rw [inR_ix 24 (by decide) 23 rfl _, e1]; rfl) ?_
      refine lv_if_eq (tgt := 24) hx hb dX1_isPlace_7 (by decide) (fun c_1 => ?_) (fun c_1 => ?_)
      · -- T of pc 7
        exact absurd c_1 (by decide)
      · -- F of pc 7
        refine lv_iload_n hx hb dX1_isPlace_10 rfl (lv_at hl 1 rfl) ?_
        refine lv_iconst (v := 0) hx hb dX1_isPlace_11 (by decide) ?_
        refine lv_bipush (v := 15) hx hb dX1_isPlace_12 (by decide) ?_
        refine ct_Si (As := [.int q, .int 0, .int 15]) (rest := []) (wr := []) (wn := []) ⟨hx, hb, hml, hown, hts⟩ (c1_in l D q 0 15) (va_cwS 3 hts gX1_isPlace_X1_in rfl rfl rfl (by decide +kernel) ⟨Nat.le_of_ble_eq_true rfl, Nat.le_of_ble_eq_true rfl⟩) hK hP hD hS hA [] [] [] [] rfl rfl (by decide) rfl (by decide) (by decide) rfl (by decide) rfl hl.1 rfl (Nat.le_of_ble_eq_true rfl) dX1_isPlace_14 ⟨Nat.zero_le _, Nat.zero_le _⟩ (fun H locs hP hD hS => ?_)
        refine tp_as (z := 0) (by rw [inR_ix 16 (by decide) 15 rfl _, e2]; rfl) ?_
        refine lv_if_eq (tgt := 24) hx hb dX1_isPlace_17 (by decide) (fun c_2 => ?_) (fun c_2 => ?_)
        · -- T of pc 17
          refine lv_iconst (v := 0) hx hb dX1_isPlace_24 (by decide) ?_
          exact hret _ _ _ _ _ hP hD hS rfl dX1_isPlace_25
        · -- F of pc 17
          exact absurd (by decide) c_2
    · rw [e1, e2]
      refine ct_i.of (cc := cX1_isPlace) (maxL := 2) (ty := .boolean) (by decide) rfl (Nat.le_of_ble_eq_true rfl) (nb_bI _) ?_
      intro p e s m args below meth c ls A Q hx hb hml hts hown hK hP hD hA hS hl hret
      have hown : s.vm.findClass RX1 = some m.cls := hown
      have hl : lv_has ls 2 [(0, .int (nI i)), (1, .int (nI j))] := hl
      have hP : va_P D vwCl [] s.heap := hP
      have hD : va_D A [] := hD
      refine lv_iload_n hx hb dX1_isPlace_0 rfl (lv_at hl 0 rfl) ?_
      refine lv_iconst (v := 0) hx hb dX1_isPlace_1 (by decide) ?_
      refine lv_bipush (v := 23) hx hb dX1_isPlace_2 (by decide) ?_
      refine ct_Si (As := [.int (nI i), .int 0, .int 23]) (rest := []) (wr := []) (wn := []) ⟨hx, hb, hml, hown, hts⟩ (c1_in l D (nI i) 0 23) (va_cwS 3 hts gX1_isPlace_X1_in rfl rfl rfl (by decide +kernel) ⟨Nat.le_of_ble_eq_true rfl, Nat.le_of_ble_eq_true rfl⟩) hK hP hD hS hA [] [] [] [] rfl rfl (by decide) rfl (by decide) (by decide) rfl (by decide) rfl hl.1 rfl (Nat.le_of_ble_eq_true rfl) dX1_isPlace_4 ⟨Nat.zero_le _, Nat.zero_le _⟩ (fun H locs hP hD hS => ?_)
      refine tp_as (z := 1) (by rw [inR_ix 24 (by decide) 23 rfl _, e1]; rfl) ?_
      refine lv_if_eq (tgt := 24) hx hb dX1_isPlace_7 (by decide) (fun c_1 => ?_) (fun c_1 => ?_)
      · -- T of pc 7
        exact absurd c_1 (by decide)
      · -- F of pc 7
        refine lv_iload_n hx hb dX1_isPlace_10 rfl (lv_at hl 1 rfl) ?_
        refine lv_iconst (v := 0) hx hb dX1_isPlace_11 (by decide) ?_
        refine lv_bipush (v := 15) hx hb dX1_isPlace_12 (by decide) ?_
        refine ct_Si (As := [.int (nI j), .int 0, .int 15]) (rest := []) (wr := []) (wn := []) ⟨hx, hb, hml, hown, hts⟩ (c1_in l D (nI j) 0 15) (va_cwS 3 hts gX1_isPlace_X1_in rfl rfl rfl (by decide +kernel) ⟨Nat.le_of_ble_eq_true rfl, Nat.le_of_ble_eq_true rfl⟩) hK hP hD hS hA [] [] [] [] rfl rfl (by decide) rfl (by decide) (by decide) rfl (by decide) rfl hl.1 rfl (Nat.le_of_ble_eq_true rfl) dX1_isPlace_14 ⟨Nat.zero_le _, Nat.zero_le _⟩ (fun H locs hP hD hS => ?_)
        refine tp_as (z := 1) (by rw [inR_ix 16 (by decide) 15 rfl _, e2]; rfl) ?_
        refine lv_if_eq (tgt := 24) hx hb dX1_isPlace_17 (by decide) (fun c_2 => ?_) (fun c_2 => ?_)
        · -- T of pc 17
          exact absurd c_2 (by decide)
        · -- F of pc 17
          refine lv_iconst (v := 1) hx hb dX1_isPlace_20 (by decide) ?_
          refine lv_goto (tgt := 25) hx hb dX1_isPlace_21 (by decide) ?_
          exact hret _ _ _ _ _ hP hD hS rfl dX1_isPlace_25
set_option maxHeartbeats 4000000 in
set_option maxRecDepth 100000 in
theorem c1_write (l : Launch) (D : va_G) (h0 a1 a2 a3 a4 a5 : Nat) (k1 k2 k3 k4 k5 : ClassId) (gw gd gl : Nat → Int32) (dz lg : Nat → Bool) (of mk : Bool) (la : Nat) (lf : Option Nat) (sh : Nat) (b q v : Int32) : ct_i l yX1_write wsX1_write ({ frames := 2, cells := 0, slots := 0, locals := 43 }) D vwCl (MT k1 k2 k3 k4 k5) [.ref h0, .int b, .int q, .int v] (MW h0 a1 a2 a3 a4 a5 k1 k2 k3 k4 k5 gw gd gl dz lg of mk la lf sh) (MW h0 a1 a2 a3 a4 a5 k1 k2 k3 k4 k5 ((mwr gw dz of b q v).1) gd gl ((mwr gw dz of b q v).2.1) lg of mk la lf sh) (bI (mwr gw dz of b q v).2.2) := by
  cases of with
  | true =>
    simp only [mwr]
    refine ct_i.of (cc := cX1_write) (maxL := 4) (ty := .boolean) (by decide) rfl (Nat.le_of_ble_eq_true rfl) (nb_bI _) ?_
    intro p e s m args below meth c ls A Q hx hb hml hts hown hK hP hD hA hS hl hret
    have hown : s.vm.findClass RX1 = some m.cls := hown
    have hl : lv_has ls 4 [(0, .ref h0), (1, .int b), (2, .int q), (3, .int v)] := hl
    have hP : va_P D vwCl [(h0, .inr (1, [.ref a1, .ref a2, .ref a3, .ref a4, .ref a5, .int 1, .int (bI mk), .int (nI la), .int (lfI lf), .int (nI sh)])), (a1, .inl (k1, 384, .inl gw)), (a2, .inl (k2, 384, .inl gd)), (a3, .inl (k3, 384, .inl gl)), (a4, .inl (k4, 24, .inl (fun j => bI (dz j)))), (a5, .inl (k5, 24, .inl (fun j => bI (lg j))))] s.heap := hP
    have hD : va_D A [(h0, .inr (1, [.ref a1, .ref a2, .ref a3, .ref a4, .ref a5, .int 1, .int (bI mk), .int (nI la), .int (lfI lf), .int (nI sh)])), (a1, .inl (k1, 384, .inl gw)), (a2, .inl (k2, 384, .inl gd)), (a3, .inl (k3, 384, .inl gl)), (a4, .inl (k4, 24, .inl (fun j => bI (dz j)))), (a5, .inl (k5, 24, .inl (fun j => bI (lg j))))] := hD
    refine lv_aload_n hx hb dX1_write_0 rfl (lv_at hl 0 rfl) ?_
    refine va_get (ci := 1) (v := .int 1) (C := RX1) (T := TX1) (N := 10) hx hb hts (by decide +kernel) hown hK hP 0 rfl rfl 5 (by decide) (hts (.fieldLink RX1 30 "CommitLogModel" "off" "Z") (by decide +kernel)) (fun _ h9 => h9) rfl dX1_write_1 ?_
    refine lv_if_ne (tgt := 15) hx hb dX1_write_4 (by decide) (fun c_1 => ?_) (fun c_1 => ?_)
    · -- T of pc 4
      refine lv_iconst (v := 0) hx hb dX1_write_15 (by decide) ?_
      exact hret _ _ _ _ _ hP hD hS rfl dX1_write_16
    · -- F of pc 4
      exact absurd c_1 (by decide)
  | false =>
    rcases ix_cases 24 (by decide) b with ⟨e1, -⟩ | ⟨i, hi, rfl, e1⟩
    · simp only [mwr, e1]
      refine ct_i.of (cc := cX1_write) (maxL := 4) (ty := .boolean) (by decide) rfl (Nat.le_of_ble_eq_true rfl) (nb_bI _) ?_
      intro p e s m args below meth c ls A Q hx hb hml hts hown hK hP hD hA hS hl hret
      have hown : s.vm.findClass RX1 = some m.cls := hown
      have hl : lv_has ls 4 [(0, .ref h0), (1, .int b), (2, .int q), (3, .int v)] := hl
      have hP : va_P D vwCl [(h0, .inr (1, [.ref a1, .ref a2, .ref a3, .ref a4, .ref a5, .int 0, .int (bI mk), .int (nI la), .int (lfI lf), .int (nI sh)])), (a1, .inl (k1, 384, .inl gw)), (a2, .inl (k2, 384, .inl gd)), (a3, .inl (k3, 384, .inl gl)), (a4, .inl (k4, 24, .inl (fun j => bI (dz j)))), (a5, .inl (k5, 24, .inl (fun j => bI (lg j))))] s.heap := hP
      have hD : va_D A [(h0, .inr (1, [.ref a1, .ref a2, .ref a3, .ref a4, .ref a5, .int 0, .int (bI mk), .int (nI la), .int (lfI lf), .int (nI sh)])), (a1, .inl (k1, 384, .inl gw)), (a2, .inl (k2, 384, .inl gd)), (a3, .inl (k3, 384, .inl gl)), (a4, .inl (k4, 24, .inl (fun j => bI (dz j)))), (a5, .inl (k5, 24, .inl (fun j => bI (lg j))))] := hD
      refine lv_aload_n hx hb dX1_write_0 rfl (lv_at hl 0 rfl) ?_
      refine va_get (ci := 1) (v := .int 0) (C := RX1) (T := TX1) (N := 10) hx hb hts (by decide +kernel) hown hK hP 0 rfl rfl 5 (by decide) (hts (.fieldLink RX1 30 "CommitLogModel" "off" "Z") (by decide +kernel)) (fun _ h9 => h9) rfl dX1_write_1 ?_
      refine lv_if_ne (tgt := 15) hx hb dX1_write_4 (by decide) (fun c_1 => ?_) (fun c_1 => ?_)
      · -- T of pc 4
        exact absurd (by decide) c_1
      · -- F of pc 4
        refine lv_iload_n hx hb dX1_write_7 rfl (lv_at hl 1 rfl) ?_
        refine lv_iload_n hx hb dX1_write_8 rfl (lv_at hl 2 rfl) ?_
        refine ct_Si (As := [.int b, .int q]) (rest := []) (wr := [(h0, .inr (1, [.ref a1, .ref a2, .ref a3, .ref a4, .ref a5, .int 0, .int (bI mk), .int (nI la), .int (lfI lf), .int (nI sh)])), (a1, .inl (k1, 384, .inl gw)), (a2, .inl (k2, 384, .inl gd)), (a3, .inl (k3, 384, .inl gl)), (a4, .inl (k4, 24, .inl (fun j => bI (dz j)))), (a5, .inl (k5, 24, .inl (fun j => bI (lg j))))]) (wn := [(h0, .inr (1, [.ref a1, .ref a2, .ref a3, .ref a4, .ref a5, .int 0, .int (bI mk), .int (nI la), .int (lfI lf), .int (nI sh)])), (a1, .inl (k1, 384, .inl gw)), (a2, .inl (k2, 384, .inl gd)), (a3, .inl (k3, 384, .inl gl)), (a4, .inl (k4, 24, .inl (fun j => bI (dz j)))), (a5, .inl (k5, 24, .inl (fun j => bI (lg j))))]) ⟨hx, hb, hml, hown, hts⟩ (c1_isPlace l D b q) (va_cwS 2 hts gX1_write_X1_isPlace rfl rfl rfl (by decide +kernel) ⟨Nat.le_of_ble_eq_true rfl, Nat.le_of_ble_eq_true rfl⟩) hK hP hD hS hA [] [0, 1, 2, 3, 4, 5] [] [0, 1, 2, 3, 4, 5] rfl rfl (by decide) rfl (by decide) (by decide) rfl (by decide) rfl hl.1 rfl (Nat.le_of_ble_eq_true rfl) dX1_write_9 ⟨Nat.zero_le _, Nat.zero_le _⟩ (fun H locs hP hD hS => ?_)
        refine tp_as (z := 0) (by rw [e1]; rfl) ?_
        refine lv_if_ne (tgt := 17) hx hb dX1_write_12 (by decide) (fun c_2 => ?_) (fun c_2 => ?_)
        · -- T of pc 12
          exact absurd (by decide) c_2
        · -- F of pc 12
          refine lv_iconst (v := 0) hx hb dX1_write_15 (by decide) ?_
          exact hret _ _ _ _ _ hP hD hS rfl dX1_write_16
    · rcases ix_cases 16 (by decide) q with ⟨e2, -⟩ | ⟨j, hj, rfl, e2⟩
      · simp only [mwr, e1, e2]
        refine ct_i.of (cc := cX1_write) (maxL := 4) (ty := .boolean) (by decide) rfl (Nat.le_of_ble_eq_true rfl) (nb_bI _) ?_
        intro p e s m args below meth c ls A Q hx hb hml hts hown hK hP hD hA hS hl hret
        have hown : s.vm.findClass RX1 = some m.cls := hown
        have hl : lv_has ls 4 [(0, .ref h0), (1, .int (nI i)), (2, .int q), (3, .int v)] := hl
        have hP : va_P D vwCl [(h0, .inr (1, [.ref a1, .ref a2, .ref a3, .ref a4, .ref a5, .int 0, .int (bI mk), .int (nI la), .int (lfI lf), .int (nI sh)])), (a1, .inl (k1, 384, .inl gw)), (a2, .inl (k2, 384, .inl gd)), (a3, .inl (k3, 384, .inl gl)), (a4, .inl (k4, 24, .inl (fun j => bI (dz j)))), (a5, .inl (k5, 24, .inl (fun j => bI (lg j))))] s.heap := hP
        have hD : va_D A [(h0, .inr (1, [.ref a1, .ref a2, .ref a3, .ref a4, .ref a5, .int 0, .int (bI mk), .int (nI la), .int (lfI lf), .int (nI sh)])), (a1, .inl (k1, 384, .inl gw)), (a2, .inl (k2, 384, .inl gd)), (a3, .inl (k3, 384, .inl gl)), (a4, .inl (k4, 24, .inl (fun j => bI (dz j)))), (a5, .inl (k5, 24, .inl (fun j => bI (lg j))))] := hD
        refine lv_aload_n hx hb dX1_write_0 rfl (lv_at hl 0 rfl) ?_
        refine va_get (ci := 1) (v := .int 0) (C := RX1) (T := TX1) (N := 10) hx hb hts (by decide +kernel) hown hK hP 0 rfl rfl 5 (by decide) (hts (.fieldLink RX1 30 "CommitLogModel" "off" "Z") (by decide +kernel)) (fun _ h9 => h9) rfl dX1_write_1 ?_
        refine lv_if_ne (tgt := 15) hx hb dX1_write_4 (by decide) (fun c_1 => ?_) (fun c_1 => ?_)
        · -- T of pc 4
          exact absurd (by decide) c_1
        · -- F of pc 4
          refine lv_iload_n hx hb dX1_write_7 rfl (lv_at hl 1 rfl) ?_
          refine lv_iload_n hx hb dX1_write_8 rfl (lv_at hl 2 rfl) ?_
          refine ct_Si (As := [.int (nI i), .int q]) (rest := []) (wr := [(h0, .inr (1, [.ref a1, .ref a2, .ref a3, .ref a4, .ref a5, .int 0, .int (bI mk), .int (nI la), .int (lfI lf), .int (nI sh)])), (a1, .inl (k1, 384, .inl gw)), (a2, .inl (k2, 384, .inl gd)), (a3, .inl (k3, 384, .inl gl)), (a4, .inl (k4, 24, .inl (fun j => bI (dz j)))), (a5, .inl (k5, 24, .inl (fun j => bI (lg j))))]) (wn := [(h0, .inr (1, [.ref a1, .ref a2, .ref a3, .ref a4, .ref a5, .int 0, .int (bI mk), .int (nI la), .int (lfI lf), .int (nI sh)])), (a1, .inl (k1, 384, .inl gw)), (a2, .inl (k2, 384, .inl gd)), (a3, .inl (k3, 384, .inl gl)), (a4, .inl (k4, 24, .inl (fun j => bI (dz j)))), (a5, .inl (k5, 24, .inl (fun j => bI (lg j))))]) ⟨hx, hb, hml, hown, hts⟩ (c1_isPlace l D (nI i) q) (va_cwS 2 hts gX1_write_X1_isPlace rfl rfl rfl (by decide +kernel) ⟨Nat.le_of_ble_eq_true rfl, Nat.le_of_ble_eq_true rfl⟩) hK hP hD hS hA [] [0, 1, 2, 3, 4, 5] [] [0, 1, 2, 3, 4, 5] rfl rfl (by decide) rfl (by decide) (by decide) rfl (by decide) rfl hl.1 rfl (Nat.le_of_ble_eq_true rfl) dX1_write_9 ⟨Nat.zero_le _, Nat.zero_le _⟩ (fun H locs hP hD hS => ?_)
          refine tp_as (z := 0) (by rw [e1, e2]; rfl) ?_
          refine lv_if_ne (tgt := 17) hx hb dX1_write_12 (by decide) (fun c_2 => ?_) (fun c_2 => ?_)
          · -- T of pc 12
            exact absurd (by decide) c_2
          · -- F of pc 12
            refine lv_iconst (v := 0) hx hb dX1_write_15 (by decide) ?_
            exact hret _ _ _ _ _ hP hD hS rfl dX1_write_16
      · simp only [mwr, e1, e2]
        refine ct_i.of (cc := cX1_write) (maxL := 4) (ty := .boolean) (by decide) rfl (Nat.le_of_ble_eq_true rfl) (nb_bI _) ?_
        intro p e s m args below meth c ls A Q hx hb hml hts hown hK hP hD hA hS hl hret
        have hown : s.vm.findClass RX1 = some m.cls := hown
        have hl : lv_has ls 4 [(0, .ref h0), (1, .int (nI i)), (2, .int (nI j)), (3, .int v)] := hl
        have hP : va_P D vwCl [(h0, .inr (1, [.ref a1, .ref a2, .ref a3, .ref a4, .ref a5, .int 0, .int (bI mk), .int (nI la), .int (lfI lf), .int (nI sh)])), (a1, .inl (k1, 384, .inl gw)), (a2, .inl (k2, 384, .inl gd)), (a3, .inl (k3, 384, .inl gl)), (a4, .inl (k4, 24, .inl (fun j => bI (dz j)))), (a5, .inl (k5, 24, .inl (fun j => bI (lg j))))] s.heap := hP
        have hD : va_D A [(h0, .inr (1, [.ref a1, .ref a2, .ref a3, .ref a4, .ref a5, .int 0, .int (bI mk), .int (nI la), .int (lfI lf), .int (nI sh)])), (a1, .inl (k1, 384, .inl gw)), (a2, .inl (k2, 384, .inl gd)), (a3, .inl (k3, 384, .inl gl)), (a4, .inl (k4, 24, .inl (fun j => bI (dz j)))), (a5, .inl (k5, 24, .inl (fun j => bI (lg j))))] := hD
        refine lv_aload_n hx hb dX1_write_0 rfl (lv_at hl 0 rfl) ?_
        refine va_get (ci := 1) (v := .int 0) (C := RX1) (T := TX1) (N := 10) hx hb hts (by decide +kernel) hown hK hP 0 rfl rfl 5 (by decide) (hts (.fieldLink RX1 30 "CommitLogModel" "off" "Z") (by decide +kernel)) (fun _ h9 => h9) rfl dX1_write_1 ?_
        refine lv_if_ne (tgt := 15) hx hb dX1_write_4 (by decide) (fun c_1 => ?_) (fun c_1 => ?_)
        · -- T of pc 4
          exact absurd (by decide) c_1
        · -- F of pc 4
          refine lv_iload_n hx hb dX1_write_7 rfl (lv_at hl 1 rfl) ?_
          refine lv_iload_n hx hb dX1_write_8 rfl (lv_at hl 2 rfl) ?_
          refine ct_Si (As := [.int (nI i), .int (nI j)]) (rest := []) (wr := [(h0, .inr (1, [.ref a1, .ref a2, .ref a3, .ref a4, .ref a5, .int 0, .int (bI mk), .int (nI la), .int (lfI lf), .int (nI sh)])), (a1, .inl (k1, 384, .inl gw)), (a2, .inl (k2, 384, .inl gd)), (a3, .inl (k3, 384, .inl gl)), (a4, .inl (k4, 24, .inl (fun j => bI (dz j)))), (a5, .inl (k5, 24, .inl (fun j => bI (lg j))))]) (wn := [(h0, .inr (1, [.ref a1, .ref a2, .ref a3, .ref a4, .ref a5, .int 0, .int (bI mk), .int (nI la), .int (lfI lf), .int (nI sh)])), (a1, .inl (k1, 384, .inl gw)), (a2, .inl (k2, 384, .inl gd)), (a3, .inl (k3, 384, .inl gl)), (a4, .inl (k4, 24, .inl (fun j => bI (dz j)))), (a5, .inl (k5, 24, .inl (fun j => bI (lg j))))]) ⟨hx, hb, hml, hown, hts⟩ (c1_isPlace l D (nI i) (nI j)) (va_cwS 2 hts gX1_write_X1_isPlace rfl rfl rfl (by decide +kernel) ⟨Nat.le_of_ble_eq_true rfl, Nat.le_of_ble_eq_true rfl⟩) hK hP hD hS hA [] [0, 1, 2, 3, 4, 5] [] [0, 1, 2, 3, 4, 5] rfl rfl (by decide) rfl (by decide) (by decide) rfl (by decide) rfl hl.1 rfl (Nat.le_of_ble_eq_true rfl) dX1_write_9 ⟨Nat.zero_le _, Nat.zero_le _⟩ (fun H locs hP hD hS => ?_)
          refine tp_as (z := 1) (by rw [e1, e2]; rfl) ?_
          refine lv_if_ne (tgt := 17) hx hb dX1_write_12 (by decide) (fun c_2 => ?_) (fun c_2 => ?_)
          · -- T of pc 12
            refine lv_aload_n hx hb dX1_write_17 rfl (lv_at hl 0 rfl) ?_
            refine va_get (ci := 1) (v := .ref a1) (C := RX1) (T := TX1) (N := 10) hx hb hts (by decide +kernel) hown hK hP 0 rfl rfl 0 (by decide) (hts (.fieldLink RX1 7 "CommitLogModel" "work" "[B") (by decide +kernel)) (fun _ h9 => h9) rfl dX1_write_18 ?_
            refine lv_bipush (v := 16) hx hb dX1_write_21 (by decide) ?_
            refine lv_iload_n hx hb dX1_write_23 rfl (lv_at hl 1 rfl) ?_
            refine lv_imul hx hb dX1_write_24 ?_
            refine tp_as (z := nI (i * 16)) (by rw [Nat.mul_comm i 16]; exact pk_mul 16 i) ?_
            refine lv_iload_n hx hb dX1_write_25 rfl (lv_at hl 2 rfl) ?_
            refine lv_iadd hx hb dX1_write_26 ?_
            refine tp_as (z := nI (i * 16 + j)) (nI_add _ _) ?_
            refine lv_iload_n hx hb dX1_write_27 rfl (lv_at hl 3 rfl) ?_
            refine lv_i2b (v := v.toInt8.toInt32) hx hb dX1_write_28 rfl ?_
            refine va_bast hx hb hK hP hD hS 1 0 rfl rfl (vp_in_nI (by omega) (by decide)) dX1_write_29 (fun H locs hP hD hS => ?_)
            rw [cl_nI (show i * 16 + j < 2 ^ 31 by omega), pk_vb] at hP hD
            have hP : va_P D vwCl [(h0, .inr (1, [.ref a1, .ref a2, .ref a3, .ref a4, .ref a5, .int 0, .int (bI mk), .int (nI la), .int (lfI lf), .int (nI sh)])), (a1, .inl (k1, 384, .inl (upd gw (i * 16 + j) v.toInt8.toInt32))), (a2, .inl (k2, 384, .inl gd)), (a3, .inl (k3, 384, .inl gl)), (a4, .inl (k4, 24, .inl (fun j => bI (dz j)))), (a5, .inl (k5, 24, .inl (fun j => bI (lg j))))] H := hP
            have hD : va_D _ [(h0, .inr (1, [.ref a1, .ref a2, .ref a3, .ref a4, .ref a5, .int 0, .int (bI mk), .int (nI la), .int (lfI lf), .int (nI sh)])), (a1, .inl (k1, 384, .inl (upd gw (i * 16 + j) v.toInt8.toInt32))), (a2, .inl (k2, 384, .inl gd)), (a3, .inl (k3, 384, .inl gl)), (a4, .inl (k4, 24, .inl (fun j => bI (dz j)))), (a5, .inl (k5, 24, .inl (fun j => bI (lg j))))] := hD
            refine lv_aload_n hx hb dX1_write_30 rfl (lv_at hl 0 rfl) ?_
            refine va_get (ci := 1) (v := .ref a4) (C := RX1) (T := TX1) (N := 10) hx hb hts (by decide +kernel) hown hK hP 0 rfl rfl 3 (by decide) (hts (.fieldLink RX1 19 "CommitLogModel" "dirty" "[Z") (by decide +kernel)) (fun _ h9 => h9) rfl dX1_write_31 ?_
            refine lv_iload_n hx hb dX1_write_34 rfl (lv_at hl 1 rfl) ?_
            refine lv_iconst (v := 1) hx hb dX1_write_35 (by decide) ?_
            refine va_zast hx hb hK hP hD hS 4 3 rfl rfl (vp_in_nI (by omega) (by decide)) dX1_write_36 (fun H locs hP hD hS => ?_)
            rw [cl_nI (show i < 2 ^ 31 by omega), show vp_nar .boolean 1 = bI true from rfl, up_bI] at hP hD
            have hP : va_P D vwCl [(h0, .inr (1, [.ref a1, .ref a2, .ref a3, .ref a4, .ref a5, .int 0, .int (bI mk), .int (nI la), .int (lfI lf), .int (nI sh)])), (a1, .inl (k1, 384, .inl (upd gw (i * 16 + j) v.toInt8.toInt32))), (a2, .inl (k2, 384, .inl gd)), (a3, .inl (k3, 384, .inl gl)), (a4, .inl (k4, 24, .inl (fun j => bI (va_up dz i true j)))), (a5, .inl (k5, 24, .inl (fun j => bI (lg j))))] H := hP
            have hD : va_D _ [(h0, .inr (1, [.ref a1, .ref a2, .ref a3, .ref a4, .ref a5, .int 0, .int (bI mk), .int (nI la), .int (lfI lf), .int (nI sh)])), (a1, .inl (k1, 384, .inl (upd gw (i * 16 + j) v.toInt8.toInt32))), (a2, .inl (k2, 384, .inl gd)), (a3, .inl (k3, 384, .inl gl)), (a4, .inl (k4, 24, .inl (fun j => bI (va_up dz i true j)))), (a5, .inl (k5, 24, .inl (fun j => bI (lg j))))] := hD
            refine lv_iconst (v := 1) hx hb dX1_write_37 (by decide) ?_
            exact hret _ _ _ _ _ hP hD hS rfl dX1_write_38
          · -- F of pc 12
            exact absurd c_2 (by decide)
set_option maxHeartbeats 4000000 in
set_option maxRecDepth 100000 in
theorem c1_read (l : Launch) (D : va_G) (h0 a1 a2 a3 a4 a5 : Nat) (k1 k2 k3 k4 k5 : ClassId) (gw gd gl : Nat → Int32) (dz lg : Nat → Bool) (of mk : Bool) (la : Nat) (lf : Option Nat) (sh : Nat) (b q : Int32) : ct_i l yX1_read wsX1_read ({ frames := 2, cells := 0, slots := 0, locals := 43 }) D vwCl (MT k1 k2 k3 k4 k5) [.ref h0, .int b, .int q] (MW h0 a1 a2 a3 a4 a5 k1 k2 k3 k4 k5 gw gd gl dz lg of mk la lf sh) (MW h0 a1 a2 a3 a4 a5 k1 k2 k3 k4 k5 gw gd gl dz lg of mk la lf sh) (mrd of gw b q) := by
  cases of with
  | true =>
    simp only [mrd]
    refine ct_i.of (cc := cX1_read) (maxL := 3) (ty := .int) (by decide) rfl (Nat.le_of_ble_eq_true rfl) rfl ?_
    intro p e s m args below meth c ls A Q hx hb hml hts hown hK hP hD hA hS hl hret
    have hown : s.vm.findClass RX1 = some m.cls := hown
    have hl : lv_has ls 3 [(0, .ref h0), (1, .int b), (2, .int q)] := hl
    have hP : va_P D vwCl [(h0, .inr (1, [.ref a1, .ref a2, .ref a3, .ref a4, .ref a5, .int 1, .int (bI mk), .int (nI la), .int (lfI lf), .int (nI sh)])), (a1, .inl (k1, 384, .inl gw)), (a2, .inl (k2, 384, .inl gd)), (a3, .inl (k3, 384, .inl gl)), (a4, .inl (k4, 24, .inl (fun j => bI (dz j)))), (a5, .inl (k5, 24, .inl (fun j => bI (lg j))))] s.heap := hP
    have hD : va_D A [(h0, .inr (1, [.ref a1, .ref a2, .ref a3, .ref a4, .ref a5, .int 1, .int (bI mk), .int (nI la), .int (lfI lf), .int (nI sh)])), (a1, .inl (k1, 384, .inl gw)), (a2, .inl (k2, 384, .inl gd)), (a3, .inl (k3, 384, .inl gl)), (a4, .inl (k4, 24, .inl (fun j => bI (dz j)))), (a5, .inl (k5, 24, .inl (fun j => bI (lg j))))] := hD
    refine lv_aload_n hx hb dX1_read_0 rfl (lv_at hl 0 rfl) ?_
    refine va_get (ci := 1) (v := .int 1) (C := RX1) (T := TX1) (N := 10) hx hb hts (by decide +kernel) hown hK hP 0 rfl rfl 5 (by decide) (hts (.fieldLink RX1 30 "CommitLogModel" "off" "Z") (by decide +kernel)) (fun _ h9 => h9) rfl dX1_read_1 ?_
    refine lv_if_ne (tgt := 15) hx hb dX1_read_4 (by decide) (fun c_1 => ?_) (fun c_1 => ?_)
    · -- T of pc 4
      refine lv_iconst (v := (-1)) hx hb dX1_read_15 (by decide) ?_
      refine lv_goto (tgt := 34) hx hb dX1_read_16 (by decide) ?_
      exact hret _ _ _ _ _ hP hD hS rfl dX1_read_34
    · -- F of pc 4
      exact absurd c_1 (by decide)
  | false =>
    rcases ix_cases 24 (by decide) b with ⟨e1, -⟩ | ⟨i, hi, rfl, e1⟩
    · simp only [mrd, e1]
      refine ct_i.of (cc := cX1_read) (maxL := 3) (ty := .int) (by decide) rfl (Nat.le_of_ble_eq_true rfl) rfl ?_
      intro p e s m args below meth c ls A Q hx hb hml hts hown hK hP hD hA hS hl hret
      have hown : s.vm.findClass RX1 = some m.cls := hown
      have hl : lv_has ls 3 [(0, .ref h0), (1, .int b), (2, .int q)] := hl
      have hP : va_P D vwCl [(h0, .inr (1, [.ref a1, .ref a2, .ref a3, .ref a4, .ref a5, .int 0, .int (bI mk), .int (nI la), .int (lfI lf), .int (nI sh)])), (a1, .inl (k1, 384, .inl gw)), (a2, .inl (k2, 384, .inl gd)), (a3, .inl (k3, 384, .inl gl)), (a4, .inl (k4, 24, .inl (fun j => bI (dz j)))), (a5, .inl (k5, 24, .inl (fun j => bI (lg j))))] s.heap := hP
      have hD : va_D A [(h0, .inr (1, [.ref a1, .ref a2, .ref a3, .ref a4, .ref a5, .int 0, .int (bI mk), .int (nI la), .int (lfI lf), .int (nI sh)])), (a1, .inl (k1, 384, .inl gw)), (a2, .inl (k2, 384, .inl gd)), (a3, .inl (k3, 384, .inl gl)), (a4, .inl (k4, 24, .inl (fun j => bI (dz j)))), (a5, .inl (k5, 24, .inl (fun j => bI (lg j))))] := hD
      refine lv_aload_n hx hb dX1_read_0 rfl (lv_at hl 0 rfl) ?_
      refine va_get (ci := 1) (v := .int 0) (C := RX1) (T := TX1) (N := 10) hx hb hts (by decide +kernel) hown hK hP 0 rfl rfl 5 (by decide) (hts (.fieldLink RX1 30 "CommitLogModel" "off" "Z") (by decide +kernel)) (fun _ h9 => h9) rfl dX1_read_1 ?_
      refine lv_if_ne (tgt := 15) hx hb dX1_read_4 (by decide) (fun c_1 => ?_) (fun c_1 => ?_)
      · -- T of pc 4
        exact absurd (by decide) c_1
      · -- F of pc 4
        refine lv_iload_n hx hb dX1_read_7 rfl (lv_at hl 1 rfl) ?_
        refine lv_iload_n hx hb dX1_read_8 rfl (lv_at hl 2 rfl) ?_
        refine ct_Si (As := [.int b, .int q]) (rest := []) (wr := [(h0, .inr (1, [.ref a1, .ref a2, .ref a3, .ref a4, .ref a5, .int 0, .int (bI mk), .int (nI la), .int (lfI lf), .int (nI sh)])), (a1, .inl (k1, 384, .inl gw)), (a2, .inl (k2, 384, .inl gd)), (a3, .inl (k3, 384, .inl gl)), (a4, .inl (k4, 24, .inl (fun j => bI (dz j)))), (a5, .inl (k5, 24, .inl (fun j => bI (lg j))))]) (wn := [(h0, .inr (1, [.ref a1, .ref a2, .ref a3, .ref a4, .ref a5, .int 0, .int (bI mk), .int (nI la), .int (lfI lf), .int (nI sh)])), (a1, .inl (k1, 384, .inl gw)), (a2, .inl (k2, 384, .inl gd)), (a3, .inl (k3, 384, .inl gl)), (a4, .inl (k4, 24, .inl (fun j => bI (dz j)))), (a5, .inl (k5, 24, .inl (fun j => bI (lg j))))]) ⟨hx, hb, hml, hown, hts⟩ (c1_isPlace l D b q) (va_cwS 2 hts gX1_read_X1_isPlace rfl rfl rfl (by decide +kernel) ⟨Nat.le_of_ble_eq_true rfl, Nat.le_of_ble_eq_true rfl⟩) hK hP hD hS hA [] [0, 1, 2, 3, 4, 5] [] [0, 1, 2, 3, 4, 5] rfl rfl (by decide) rfl (by decide) (by decide) rfl (by decide) rfl hl.1 rfl (Nat.le_of_ble_eq_true rfl) dX1_read_9 ⟨Nat.zero_le _, Nat.zero_le _⟩ (fun H locs hP hD hS => ?_)
        refine tp_as (z := 0) (by rw [e1]; rfl) ?_
        refine lv_if_ne (tgt := 19) hx hb dX1_read_12 (by decide) (fun c_2 => ?_) (fun c_2 => ?_)
        · -- T of pc 12
          exact absurd (by decide) c_2
        · -- F of pc 12
          refine lv_iconst (v := (-1)) hx hb dX1_read_15 (by decide) ?_
          refine lv_goto (tgt := 34) hx hb dX1_read_16 (by decide) ?_
          exact hret _ _ _ _ _ hP hD hS rfl dX1_read_34
    · rcases ix_cases 16 (by decide) q with ⟨e2, -⟩ | ⟨j, hj, rfl, e2⟩
      · simp only [mrd, e1, e2]
        refine ct_i.of (cc := cX1_read) (maxL := 3) (ty := .int) (by decide) rfl (Nat.le_of_ble_eq_true rfl) rfl ?_
        intro p e s m args below meth c ls A Q hx hb hml hts hown hK hP hD hA hS hl hret
        have hown : s.vm.findClass RX1 = some m.cls := hown
        have hl : lv_has ls 3 [(0, .ref h0), (1, .int (nI i)), (2, .int q)] := hl
        have hP : va_P D vwCl [(h0, .inr (1, [.ref a1, .ref a2, .ref a3, .ref a4, .ref a5, .int 0, .int (bI mk), .int (nI la), .int (lfI lf), .int (nI sh)])), (a1, .inl (k1, 384, .inl gw)), (a2, .inl (k2, 384, .inl gd)), (a3, .inl (k3, 384, .inl gl)), (a4, .inl (k4, 24, .inl (fun j => bI (dz j)))), (a5, .inl (k5, 24, .inl (fun j => bI (lg j))))] s.heap := hP
        have hD : va_D A [(h0, .inr (1, [.ref a1, .ref a2, .ref a3, .ref a4, .ref a5, .int 0, .int (bI mk), .int (nI la), .int (lfI lf), .int (nI sh)])), (a1, .inl (k1, 384, .inl gw)), (a2, .inl (k2, 384, .inl gd)), (a3, .inl (k3, 384, .inl gl)), (a4, .inl (k4, 24, .inl (fun j => bI (dz j)))), (a5, .inl (k5, 24, .inl (fun j => bI (lg j))))] := hD
        refine lv_aload_n hx hb dX1_read_0 rfl (lv_at hl 0 rfl) ?_
        refine va_get (ci := 1) (v := .int 0) (C := RX1) (T := TX1) (N := 10) hx hb hts (by decide +kernel) hown hK hP 0 rfl rfl 5 (by decide) (hts (.fieldLink RX1 30 "CommitLogModel" "off" "Z") (by decide +kernel)) (fun _ h9 => h9) rfl dX1_read_1 ?_
        refine lv_if_ne (tgt := 15) hx hb dX1_read_4 (by decide) (fun c_1 => ?_) (fun c_1 => ?_)
        · -- T of pc 4
          exact absurd (by decide) c_1
        · -- F of pc 4
          refine lv_iload_n hx hb dX1_read_7 rfl (lv_at hl 1 rfl) ?_
          refine lv_iload_n hx hb dX1_read_8 rfl (lv_at hl 2 rfl) ?_
          refine ct_Si (As := [.int (nI i), .int q]) (rest := []) (wr := [(h0, .inr (1, [.ref a1, .ref a2, .ref a3, .ref a4, .ref a5, .int 0, .int (bI mk), .int (nI la), .int (lfI lf), .int (nI sh)])), (a1, .inl (k1, 384, .inl gw)), (a2, .inl (k2, 384, .inl gd)), (a3, .inl (k3, 384, .inl gl)), (a4, .inl (k4, 24, .inl (fun j => bI (dz j)))), (a5, .inl (k5, 24, .inl (fun j => bI (lg j))))]) (wn := [(h0, .inr (1, [.ref a1, .ref a2, .ref a3, .ref a4, .ref a5, .int 0, .int (bI mk), .int (nI la), .int (lfI lf), .int (nI sh)])), (a1, .inl (k1, 384, .inl gw)), (a2, .inl (k2, 384, .inl gd)), (a3, .inl (k3, 384, .inl gl)), (a4, .inl (k4, 24, .inl (fun j => bI (dz j)))), (a5, .inl (k5, 24, .inl (fun j => bI (lg j))))]) ⟨hx, hb, hml, hown, hts⟩ (c1_isPlace l D (nI i) q) (va_cwS 2 hts gX1_read_X1_isPlace rfl rfl rfl (by decide +kernel) ⟨Nat.le_of_ble_eq_true rfl, Nat.le_of_ble_eq_true rfl⟩) hK hP hD hS hA [] [0, 1, 2, 3, 4, 5] [] [0, 1, 2, 3, 4, 5] rfl rfl (by decide) rfl (by decide) (by decide) rfl (by decide) rfl hl.1 rfl (Nat.le_of_ble_eq_true rfl) dX1_read_9 ⟨Nat.zero_le _, Nat.zero_le _⟩ (fun H locs hP hD hS => ?_)
          refine tp_as (z := 0) (by rw [e1, e2]; rfl) ?_
          refine lv_if_ne (tgt := 19) hx hb dX1_read_12 (by decide) (fun c_2 => ?_) (fun c_2 => ?_)
          · -- T of pc 12
            exact absurd (by decide) c_2
          · -- F of pc 12
            refine lv_iconst (v := (-1)) hx hb dX1_read_15 (by decide) ?_
            refine lv_goto (tgt := 34) hx hb dX1_read_16 (by decide) ?_
            exact hret _ _ _ _ _ hP hD hS rfl dX1_read_34
      · simp only [mrd, e1, e2]
        refine ct_i.of (cc := cX1_read) (maxL := 3) (ty := .int) (by decide) rfl (Nat.le_of_ble_eq_true rfl) rfl ?_
        intro p e s m args below meth c ls A Q hx hb hml hts hown hK hP hD hA hS hl hret
        have hown : s.vm.findClass RX1 = some m.cls := hown
        have hl : lv_has ls 3 [(0, .ref h0), (1, .int (nI i)), (2, .int (nI j))] := hl
        have hP : va_P D vwCl [(h0, .inr (1, [.ref a1, .ref a2, .ref a3, .ref a4, .ref a5, .int 0, .int (bI mk), .int (nI la), .int (lfI lf), .int (nI sh)])), (a1, .inl (k1, 384, .inl gw)), (a2, .inl (k2, 384, .inl gd)), (a3, .inl (k3, 384, .inl gl)), (a4, .inl (k4, 24, .inl (fun j => bI (dz j)))), (a5, .inl (k5, 24, .inl (fun j => bI (lg j))))] s.heap := hP
        have hD : va_D A [(h0, .inr (1, [.ref a1, .ref a2, .ref a3, .ref a4, .ref a5, .int 0, .int (bI mk), .int (nI la), .int (lfI lf), .int (nI sh)])), (a1, .inl (k1, 384, .inl gw)), (a2, .inl (k2, 384, .inl gd)), (a3, .inl (k3, 384, .inl gl)), (a4, .inl (k4, 24, .inl (fun j => bI (dz j)))), (a5, .inl (k5, 24, .inl (fun j => bI (lg j))))] := hD
        refine lv_aload_n hx hb dX1_read_0 rfl (lv_at hl 0 rfl) ?_
        refine va_get (ci := 1) (v := .int 0) (C := RX1) (T := TX1) (N := 10) hx hb hts (by decide +kernel) hown hK hP 0 rfl rfl 5 (by decide) (hts (.fieldLink RX1 30 "CommitLogModel" "off" "Z") (by decide +kernel)) (fun _ h9 => h9) rfl dX1_read_1 ?_
        refine lv_if_ne (tgt := 15) hx hb dX1_read_4 (by decide) (fun c_1 => ?_) (fun c_1 => ?_)
        · -- T of pc 4
          exact absurd (by decide) c_1
        · -- F of pc 4
          refine lv_iload_n hx hb dX1_read_7 rfl (lv_at hl 1 rfl) ?_
          refine lv_iload_n hx hb dX1_read_8 rfl (lv_at hl 2 rfl) ?_
          refine ct_Si (As := [.int (nI i), .int (nI j)]) (rest := []) (wr := [(h0, .inr (1, [.ref a1, .ref a2, .ref a3, .ref a4, .ref a5, .int 0, .int (bI mk), .int (nI la), .int (lfI lf), .int (nI sh)])), (a1, .inl (k1, 384, .inl gw)), (a2, .inl (k2, 384, .inl gd)), (a3, .inl (k3, 384, .inl gl)), (a4, .inl (k4, 24, .inl (fun j => bI (dz j)))), (a5, .inl (k5, 24, .inl (fun j => bI (lg j))))]) (wn := [(h0, .inr (1, [.ref a1, .ref a2, .ref a3, .ref a4, .ref a5, .int 0, .int (bI mk), .int (nI la), .int (lfI lf), .int (nI sh)])), (a1, .inl (k1, 384, .inl gw)), (a2, .inl (k2, 384, .inl gd)), (a3, .inl (k3, 384, .inl gl)), (a4, .inl (k4, 24, .inl (fun j => bI (dz j)))), (a5, .inl (k5, 24, .inl (fun j => bI (lg j))))]) ⟨hx, hb, hml, hown, hts⟩ (c1_isPlace l D (nI i) (nI j)) (va_cwS 2 hts gX1_read_X1_isPlace rfl rfl rfl (by decide +kernel) ⟨Nat.le_of_ble_eq_true rfl, Nat.le_of_ble_eq_true rfl⟩) hK hP hD hS hA [] [0, 1, 2, 3, 4, 5] [] [0, 1, 2, 3, 4, 5] rfl rfl (by decide) rfl (by decide) (by decide) rfl (by decide) rfl hl.1 rfl (Nat.le_of_ble_eq_true rfl) dX1_read_9 ⟨Nat.zero_le _, Nat.zero_le _⟩ (fun H locs hP hD hS => ?_)
          refine tp_as (z := 1) (by rw [e1, e2]; rfl) ?_
          refine lv_if_ne (tgt := 19) hx hb dX1_read_12 (by decide) (fun c_2 => ?_) (fun c_2 => ?_)
          · -- T of pc 12
            refine lv_aload_n hx hb dX1_read_19 rfl (lv_at hl 0 rfl) ?_
            refine va_get (ci := 1) (v := .ref a1) (C := RX1) (T := TX1) (N := 10) hx hb hts (by decide +kernel) hown hK hP 0 rfl rfl 0 (by decide) (hts (.fieldLink RX1 7 "CommitLogModel" "work" "[B") (by decide +kernel)) (fun _ h9 => h9) rfl dX1_read_20 ?_
            refine lv_bipush (v := 16) hx hb dX1_read_23 (by decide) ?_
            refine lv_iload_n hx hb dX1_read_25 rfl (lv_at hl 1 rfl) ?_
            refine lv_imul hx hb dX1_read_26 ?_
            refine tp_as (z := nI (i * 16)) (by rw [Nat.mul_comm i 16]; exact pk_mul 16 i) ?_
            refine lv_iload_n hx hb dX1_read_27 rfl (lv_at hl 2 rfl) ?_
            refine lv_iadd hx hb dX1_read_28 ?_
            refine tp_as (z := nI (i * 16 + j)) (nI_add _ _) ?_
            refine va_bald hx hb hK hP 1 0 rfl rfl (vp_in_nI (by omega) (by decide)) dX1_read_29 ?_
            refine tp_as (z := gw (i * 16 + j)) (by show gw (nI (i * 16 + j)).toNatClampNeg = _; rw [cl_nI (by omega)]) ?_
            refine lv_sipush (v := 255) hx hb dX1_read_30 (by decide) ?_
            refine lv_iand hx hb dX1_read_33 ?_
            exact hret _ _ _ _ _ hP hD hS rfl dX1_read_34
          · -- F of pc 12
            exact absurd c_2 (by decide)
set_option maxHeartbeats 4000000 in
set_option maxRecDepth 100000 in
theorem c1_disk (l : Launch) (D : va_G) (h0 a1 a2 a3 a4 a5 : Nat) (k1 k2 k3 k4 k5 : ClassId) (gw gd gl : Nat → Int32) (dz lg : Nat → Bool) (of mk : Bool) (la : Nat) (lf : Option Nat) (sh : Nat) (b q : Int32) : ct_i l yX1_disk wsX1_disk ({ frames := 2, cells := 0, slots := 0, locals := 43 }) D vwCl (MT k1 k2 k3 k4 k5) [.ref h0, .int b, .int q] (MW h0 a1 a2 a3 a4 a5 k1 k2 k3 k4 k5 gw gd gl dz lg of mk la lf sh) (MW h0 a1 a2 a3 a4 a5 k1 k2 k3 k4 k5 gw gd gl dz lg of mk la lf sh) (mrd false gd b q) := by
  rcases ix_cases 24 (by decide) b with ⟨e1, -⟩ | ⟨i, hi, rfl, e1⟩
  · simp only [mrd, e1]
    refine ct_i.of (cc := cX1_disk) (maxL := 3) (ty := .int) (by decide) rfl (Nat.le_of_ble_eq_true rfl) rfl ?_
    intro p e s m args below meth c ls A Q hx hb hml hts hown hK hP hD hA hS hl hret
    have hown : s.vm.findClass RX1 = some m.cls := hown
    have hl : lv_has ls 3 [(0, .ref h0), (1, .int b), (2, .int q)] := hl
    have hP : va_P D vwCl [(h0, .inr (1, [.ref a1, .ref a2, .ref a3, .ref a4, .ref a5, .int (bI of), .int (bI mk), .int (nI la), .int (lfI lf), .int (nI sh)])), (a1, .inl (k1, 384, .inl gw)), (a2, .inl (k2, 384, .inl gd)), (a3, .inl (k3, 384, .inl gl)), (a4, .inl (k4, 24, .inl (fun j => bI (dz j)))), (a5, .inl (k5, 24, .inl (fun j => bI (lg j))))] s.heap := hP
    have hD : va_D A [(h0, .inr (1, [.ref a1, .ref a2, .ref a3, .ref a4, .ref a5, .int (bI of), .int (bI mk), .int (nI la), .int (lfI lf), .int (nI sh)])), (a1, .inl (k1, 384, .inl gw)), (a2, .inl (k2, 384, .inl gd)), (a3, .inl (k3, 384, .inl gl)), (a4, .inl (k4, 24, .inl (fun j => bI (dz j)))), (a5, .inl (k5, 24, .inl (fun j => bI (lg j))))] := hD
    refine lv_iload_n hx hb dX1_disk_0 rfl (lv_at hl 1 rfl) ?_
    refine lv_iload_n hx hb dX1_disk_1 rfl (lv_at hl 2 rfl) ?_
    refine ct_Si (As := [.int b, .int q]) (rest := []) (wr := [(h0, .inr (1, [.ref a1, .ref a2, .ref a3, .ref a4, .ref a5, .int (bI of), .int (bI mk), .int (nI la), .int (lfI lf), .int (nI sh)])), (a1, .inl (k1, 384, .inl gw)), (a2, .inl (k2, 384, .inl gd)), (a3, .inl (k3, 384, .inl gl)), (a4, .inl (k4, 24, .inl (fun j => bI (dz j)))), (a5, .inl (k5, 24, .inl (fun j => bI (lg j))))]) (wn := [(h0, .inr (1, [.ref a1, .ref a2, .ref a3, .ref a4, .ref a5, .int (bI of), .int (bI mk), .int (nI la), .int (lfI lf), .int (nI sh)])), (a1, .inl (k1, 384, .inl gw)), (a2, .inl (k2, 384, .inl gd)), (a3, .inl (k3, 384, .inl gl)), (a4, .inl (k4, 24, .inl (fun j => bI (dz j)))), (a5, .inl (k5, 24, .inl (fun j => bI (lg j))))]) ⟨hx, hb, hml, hown, hts⟩ (c1_isPlace l D b q) (va_cwS 2 hts gX1_disk_X1_isPlace rfl rfl rfl (by decide +kernel) ⟨Nat.le_of_ble_eq_true rfl, Nat.le_of_ble_eq_true rfl⟩) hK hP hD hS hA [] [0, 1, 2, 3, 4, 5] [] [0, 1, 2, 3, 4, 5] rfl rfl (by decide) rfl (by decide) (by decide) rfl (by decide) rfl hl.1 rfl (Nat.le_of_ble_eq_true rfl) dX1_disk_2 ⟨Nat.zero_le _, Nat.zero_le _⟩ (fun H locs hP hD hS => ?_)
    refine tp_as (z := 0) (by rw [e1]; rfl) ?_
    refine lv_if_eq (tgt := 26) hx hb dX1_disk_5 (by decide) (fun c_1 => ?_) (fun c_1 => ?_)
    · -- T of pc 5
      refine lv_iconst (v := (-1)) hx hb dX1_disk_26 (by decide) ?_
      exact hret _ _ _ _ _ hP hD hS rfl dX1_disk_27
    · -- F of pc 5
      exact absurd (by decide) c_1
  · rcases ix_cases 16 (by decide) q with ⟨e2, -⟩ | ⟨j, hj, rfl, e2⟩
    · simp only [mrd, e1, e2]
      refine ct_i.of (cc := cX1_disk) (maxL := 3) (ty := .int) (by decide) rfl (Nat.le_of_ble_eq_true rfl) rfl ?_
      intro p e s m args below meth c ls A Q hx hb hml hts hown hK hP hD hA hS hl hret
      have hown : s.vm.findClass RX1 = some m.cls := hown
      have hl : lv_has ls 3 [(0, .ref h0), (1, .int (nI i)), (2, .int q)] := hl
      have hP : va_P D vwCl [(h0, .inr (1, [.ref a1, .ref a2, .ref a3, .ref a4, .ref a5, .int (bI of), .int (bI mk), .int (nI la), .int (lfI lf), .int (nI sh)])), (a1, .inl (k1, 384, .inl gw)), (a2, .inl (k2, 384, .inl gd)), (a3, .inl (k3, 384, .inl gl)), (a4, .inl (k4, 24, .inl (fun j => bI (dz j)))), (a5, .inl (k5, 24, .inl (fun j => bI (lg j))))] s.heap := hP
      have hD : va_D A [(h0, .inr (1, [.ref a1, .ref a2, .ref a3, .ref a4, .ref a5, .int (bI of), .int (bI mk), .int (nI la), .int (lfI lf), .int (nI sh)])), (a1, .inl (k1, 384, .inl gw)), (a2, .inl (k2, 384, .inl gd)), (a3, .inl (k3, 384, .inl gl)), (a4, .inl (k4, 24, .inl (fun j => bI (dz j)))), (a5, .inl (k5, 24, .inl (fun j => bI (lg j))))] := hD
      refine lv_iload_n hx hb dX1_disk_0 rfl (lv_at hl 1 rfl) ?_
      refine lv_iload_n hx hb dX1_disk_1 rfl (lv_at hl 2 rfl) ?_
      refine ct_Si (As := [.int (nI i), .int q]) (rest := []) (wr := [(h0, .inr (1, [.ref a1, .ref a2, .ref a3, .ref a4, .ref a5, .int (bI of), .int (bI mk), .int (nI la), .int (lfI lf), .int (nI sh)])), (a1, .inl (k1, 384, .inl gw)), (a2, .inl (k2, 384, .inl gd)), (a3, .inl (k3, 384, .inl gl)), (a4, .inl (k4, 24, .inl (fun j => bI (dz j)))), (a5, .inl (k5, 24, .inl (fun j => bI (lg j))))]) (wn := [(h0, .inr (1, [.ref a1, .ref a2, .ref a3, .ref a4, .ref a5, .int (bI of), .int (bI mk), .int (nI la), .int (lfI lf), .int (nI sh)])), (a1, .inl (k1, 384, .inl gw)), (a2, .inl (k2, 384, .inl gd)), (a3, .inl (k3, 384, .inl gl)), (a4, .inl (k4, 24, .inl (fun j => bI (dz j)))), (a5, .inl (k5, 24, .inl (fun j => bI (lg j))))]) ⟨hx, hb, hml, hown, hts⟩ (c1_isPlace l D (nI i) q) (va_cwS 2 hts gX1_disk_X1_isPlace rfl rfl rfl (by decide +kernel) ⟨Nat.le_of_ble_eq_true rfl, Nat.le_of_ble_eq_true rfl⟩) hK hP hD hS hA [] [0, 1, 2, 3, 4, 5] [] [0, 1, 2, 3, 4, 5] rfl rfl (by decide) rfl (by decide) (by decide) rfl (by decide) rfl hl.1 rfl (Nat.le_of_ble_eq_true rfl) dX1_disk_2 ⟨Nat.zero_le _, Nat.zero_le _⟩ (fun H locs hP hD hS => ?_)
      refine tp_as (z := 0) (by rw [e1, e2]; rfl) ?_
      refine lv_if_eq (tgt := 26) hx hb dX1_disk_5 (by decide) (fun c_1 => ?_) (fun c_1 => ?_)
      · -- T of pc 5
        refine lv_iconst (v := (-1)) hx hb dX1_disk_26 (by decide) ?_
        exact hret _ _ _ _ _ hP hD hS rfl dX1_disk_27
      · -- F of pc 5
        exact absurd (by decide) c_1
    · simp only [mrd, e1, e2]
      refine ct_i.of (cc := cX1_disk) (maxL := 3) (ty := .int) (by decide) rfl (Nat.le_of_ble_eq_true rfl) rfl ?_
      intro p e s m args below meth c ls A Q hx hb hml hts hown hK hP hD hA hS hl hret
      have hown : s.vm.findClass RX1 = some m.cls := hown
      have hl : lv_has ls 3 [(0, .ref h0), (1, .int (nI i)), (2, .int (nI j))] := hl
      have hP : va_P D vwCl [(h0, .inr (1, [.ref a1, .ref a2, .ref a3, .ref a4, .ref a5, .int (bI of), .int (bI mk), .int (nI la), .int (lfI lf), .int (nI sh)])), (a1, .inl (k1, 384, .inl gw)), (a2, .inl (k2, 384, .inl gd)), (a3, .inl (k3, 384, .inl gl)), (a4, .inl (k4, 24, .inl (fun j => bI (dz j)))), (a5, .inl (k5, 24, .inl (fun j => bI (lg j))))] s.heap := hP
      have hD : va_D A [(h0, .inr (1, [.ref a1, .ref a2, .ref a3, .ref a4, .ref a5, .int (bI of), .int (bI mk), .int (nI la), .int (lfI lf), .int (nI sh)])), (a1, .inl (k1, 384, .inl gw)), (a2, .inl (k2, 384, .inl gd)), (a3, .inl (k3, 384, .inl gl)), (a4, .inl (k4, 24, .inl (fun j => bI (dz j)))), (a5, .inl (k5, 24, .inl (fun j => bI (lg j))))] := hD
      refine lv_iload_n hx hb dX1_disk_0 rfl (lv_at hl 1 rfl) ?_
      refine lv_iload_n hx hb dX1_disk_1 rfl (lv_at hl 2 rfl) ?_
      refine ct_Si (As := [.int (nI i), .int (nI j)]) (rest := []) (wr := [(h0, .inr (1, [.ref a1, .ref a2, .ref a3, .ref a4, .ref a5, .int (bI of), .int (bI mk), .int (nI la), .int (lfI lf), .int (nI sh)])), (a1, .inl (k1, 384, .inl gw)), (a2, .inl (k2, 384, .inl gd)), (a3, .inl (k3, 384, .inl gl)), (a4, .inl (k4, 24, .inl (fun j => bI (dz j)))), (a5, .inl (k5, 24, .inl (fun j => bI (lg j))))]) (wn := [(h0, .inr (1, [.ref a1, .ref a2, .ref a3, .ref a4, .ref a5, .int (bI of), .int (bI mk), .int (nI la), .int (lfI lf), .int (nI sh)])), (a1, .inl (k1, 384, .inl gw)), (a2, .inl (k2, 384, .inl gd)), (a3, .inl (k3, 384, .inl gl)), (a4, .inl (k4, 24, .inl (fun j => bI (dz j)))), (a5, .inl (k5, 24, .inl (fun j => bI (lg j))))]) ⟨hx, hb, hml, hown, hts⟩ (c1_isPlace l D (nI i) (nI j)) (va_cwS 2 hts gX1_disk_X1_isPlace rfl rfl rfl (by decide +kernel) ⟨Nat.le_of_ble_eq_true rfl, Nat.le_of_ble_eq_true rfl⟩) hK hP hD hS hA [] [0, 1, 2, 3, 4, 5] [] [0, 1, 2, 3, 4, 5] rfl rfl (by decide) rfl (by decide) (by decide) rfl (by decide) rfl hl.1 rfl (Nat.le_of_ble_eq_true rfl) dX1_disk_2 ⟨Nat.zero_le _, Nat.zero_le _⟩ (fun H locs hP hD hS => ?_)
      refine tp_as (z := 1) (by rw [e1, e2]; rfl) ?_
      refine lv_if_eq (tgt := 26) hx hb dX1_disk_5 (by decide) (fun c_1 => ?_) (fun c_1 => ?_)
      · -- T of pc 5
        exact absurd c_1 (by decide)
      · -- F of pc 5
        refine lv_aload_n hx hb dX1_disk_8 rfl (lv_at hl 0 rfl) ?_
        refine va_get (ci := 1) (v := .ref a2) (C := RX1) (T := TX1) (N := 10) hx hb hts (by decide +kernel) hown hK hP 0 rfl rfl 1 (by decide) (hts (.fieldLink RX1 13 "CommitLogModel" "disk" "[B") (by decide +kernel)) (fun _ h9 => h9) rfl dX1_disk_9 ?_
        refine lv_bipush (v := 16) hx hb dX1_disk_12 (by decide) ?_
        refine lv_iload_n hx hb dX1_disk_14 rfl (lv_at hl 1 rfl) ?_
        refine lv_imul hx hb dX1_disk_15 ?_
        refine tp_as (z := nI (i * 16)) (by rw [Nat.mul_comm i 16]; exact pk_mul 16 i) ?_
        refine lv_iload_n hx hb dX1_disk_16 rfl (lv_at hl 2 rfl) ?_
        refine lv_iadd hx hb dX1_disk_17 ?_
        refine tp_as (z := nI (i * 16 + j)) (nI_add _ _) ?_
        refine va_bald hx hb hK hP 2 1 rfl rfl (vp_in_nI (by omega) (by decide)) dX1_disk_18 ?_
        refine tp_as (z := gd (i * 16 + j)) (by show gd (nI (i * 16 + j)).toNatClampNeg = _; rw [cl_nI (by omega)]) ?_
        refine lv_sipush (v := 255) hx hb dX1_disk_19 (by decide) ?_
        refine lv_iand hx hb dX1_disk_22 ?_
        refine lv_goto (tgt := 27) hx hb dX1_disk_23 (by decide) ?_
        exact hret _ _ _ _ _ hP hD hS rfl dX1_disk_27
set_option maxHeartbeats 4000000 in
set_option maxRecDepth 100000 in
theorem c1_dirty (l : Launch) (D : va_G) (h0 a1 a2 a3 a4 a5 : Nat) (k1 k2 k3 k4 k5 : ClassId) (gw gd gl : Nat → Int32) (dz lg : Nat → Bool) (of mk : Bool) (la : Nat) (lf : Option Nat) (sh : Nat) (b : Int32) : ct_i l yX1_dirty wsX1_dirty ({ frames := 2, cells := 0, slots := 0, locals := 43 }) D vwCl (MT k1 k2 k3 k4 k5) [.ref h0, .int b] (MW h0 a1 a2 a3 a4 a5 k1 k2 k3 k4 k5 gw gd gl dz lg of mk la lf sh) (MW h0 a1 a2 a3 a4 a5 k1 k2 k3 k4 k5 gw gd gl dz lg of mk la lf sh) (bI (mdt of dz b)) := by
  cases of with
  | true =>
    simp only [mdt]
    refine ct_i.of (cc := cX1_dirty) (maxL := 2) (ty := .boolean) (by decide) rfl (Nat.le_of_ble_eq_true rfl) (nb_bI _) ?_
    intro p e s m args below meth c ls A Q hx hb hml hts hown hK hP hD hA hS hl hret
    have hown : s.vm.findClass RX1 = some m.cls := hown
    have hl : lv_has ls 2 [(0, .ref h0), (1, .int b)] := hl
    have hP : va_P D vwCl [(h0, .inr (1, [.ref a1, .ref a2, .ref a3, .ref a4, .ref a5, .int 1, .int (bI mk), .int (nI la), .int (lfI lf), .int (nI sh)])), (a1, .inl (k1, 384, .inl gw)), (a2, .inl (k2, 384, .inl gd)), (a3, .inl (k3, 384, .inl gl)), (a4, .inl (k4, 24, .inl (fun j => bI (dz j)))), (a5, .inl (k5, 24, .inl (fun j => bI (lg j))))] s.heap := hP
    have hD : va_D A [(h0, .inr (1, [.ref a1, .ref a2, .ref a3, .ref a4, .ref a5, .int 1, .int (bI mk), .int (nI la), .int (lfI lf), .int (nI sh)])), (a1, .inl (k1, 384, .inl gw)), (a2, .inl (k2, 384, .inl gd)), (a3, .inl (k3, 384, .inl gl)), (a4, .inl (k4, 24, .inl (fun j => bI (dz j)))), (a5, .inl (k5, 24, .inl (fun j => bI (lg j))))] := hD
    refine lv_aload_n hx hb dX1_dirty_0 rfl (lv_at hl 0 rfl) ?_
    refine va_get (ci := 1) (v := .int 1) (C := RX1) (T := TX1) (N := 10) hx hb hts (by decide +kernel) hown hK hP 0 rfl rfl 5 (by decide) (hts (.fieldLink RX1 30 "CommitLogModel" "off" "Z") (by decide +kernel)) (fun _ h9 => h9) rfl dX1_dirty_1 ?_
    refine lv_if_ne (tgt := 30) hx hb dX1_dirty_4 (by decide) (fun c_1 => ?_) (fun c_1 => ?_)
    · -- T of pc 4
      refine lv_iconst (v := 0) hx hb dX1_dirty_30 (by decide) ?_
      exact hret _ _ _ _ _ hP hD hS rfl dX1_dirty_31
    · -- F of pc 4
      exact absurd c_1 (by decide)
  | false =>
    rcases ix_cases 24 (by decide) b with ⟨e1, -⟩ | ⟨i, hi, rfl, e1⟩
    · simp only [mdt, e1]
      refine ct_i.of (cc := cX1_dirty) (maxL := 2) (ty := .boolean) (by decide) rfl (Nat.le_of_ble_eq_true rfl) (nb_bI _) ?_
      intro p e s m args below meth c ls A Q hx hb hml hts hown hK hP hD hA hS hl hret
      have hown : s.vm.findClass RX1 = some m.cls := hown
      have hl : lv_has ls 2 [(0, .ref h0), (1, .int b)] := hl
      have hP : va_P D vwCl [(h0, .inr (1, [.ref a1, .ref a2, .ref a3, .ref a4, .ref a5, .int 0, .int (bI mk), .int (nI la), .int (lfI lf), .int (nI sh)])), (a1, .inl (k1, 384, .inl gw)), (a2, .inl (k2, 384, .inl gd)), (a3, .inl (k3, 384, .inl gl)), (a4, .inl (k4, 24, .inl (fun j => bI (dz j)))), (a5, .inl (k5, 24, .inl (fun j => bI (lg j))))] s.heap := hP
      have hD : va_D A [(h0, .inr (1, [.ref a1, .ref a2, .ref a3, .ref a4, .ref a5, .int 0, .int (bI mk), .int (nI la), .int (lfI lf), .int (nI sh)])), (a1, .inl (k1, 384, .inl gw)), (a2, .inl (k2, 384, .inl gd)), (a3, .inl (k3, 384, .inl gl)), (a4, .inl (k4, 24, .inl (fun j => bI (dz j)))), (a5, .inl (k5, 24, .inl (fun j => bI (lg j))))] := hD
      refine lv_aload_n hx hb dX1_dirty_0 rfl (lv_at hl 0 rfl) ?_
      refine va_get (ci := 1) (v := .int 0) (C := RX1) (T := TX1) (N := 10) hx hb hts (by decide +kernel) hown hK hP 0 rfl rfl 5 (by decide) (hts (.fieldLink RX1 30 "CommitLogModel" "off" "Z") (by decide +kernel)) (fun _ h9 => h9) rfl dX1_dirty_1 ?_
      refine lv_if_ne (tgt := 30) hx hb dX1_dirty_4 (by decide) (fun c_1 => ?_) (fun c_1 => ?_)
      · -- T of pc 4
        exact absurd (by decide) c_1
      · -- F of pc 4
        refine lv_iload_n hx hb dX1_dirty_7 rfl (lv_at hl 1 rfl) ?_
        refine lv_iconst (v := 0) hx hb dX1_dirty_8 (by decide) ?_
        refine lv_bipush (v := 23) hx hb dX1_dirty_9 (by decide) ?_
        refine ct_Si (As := [.int b, .int 0, .int 23]) (rest := []) (wr := [(h0, .inr (1, [.ref a1, .ref a2, .ref a3, .ref a4, .ref a5, .int 0, .int (bI mk), .int (nI la), .int (lfI lf), .int (nI sh)])), (a1, .inl (k1, 384, .inl gw)), (a2, .inl (k2, 384, .inl gd)), (a3, .inl (k3, 384, .inl gl)), (a4, .inl (k4, 24, .inl (fun j => bI (dz j)))), (a5, .inl (k5, 24, .inl (fun j => bI (lg j))))]) (wn := [(h0, .inr (1, [.ref a1, .ref a2, .ref a3, .ref a4, .ref a5, .int 0, .int (bI mk), .int (nI la), .int (lfI lf), .int (nI sh)])), (a1, .inl (k1, 384, .inl gw)), (a2, .inl (k2, 384, .inl gd)), (a3, .inl (k3, 384, .inl gl)), (a4, .inl (k4, 24, .inl (fun j => bI (dz j)))), (a5, .inl (k5, 24, .inl (fun j => bI (lg j))))]) ⟨hx, hb, hml, hown, hts⟩ (c1_in l D b 0 23) (va_cwS 3 hts gX1_dirty_X1_in rfl rfl rfl (by decide +kernel) ⟨Nat.le_of_ble_eq_true rfl, Nat.le_of_ble_eq_true rfl⟩) hK hP hD hS hA [] [0, 1, 2, 3, 4, 5] [] [0, 1, 2, 3, 4, 5] rfl rfl (by decide) rfl (by decide) (by decide) rfl (by decide) rfl hl.1 rfl (Nat.le_of_ble_eq_true rfl) dX1_dirty_11 ⟨Nat.zero_le _, Nat.zero_le _⟩ (fun H locs hP hD hS => ?_)
        refine tp_as (z := 0) (by rw [inR_ix 24 (by decide) 23 rfl _, e1]; rfl) ?_
        refine lv_if_eq (tgt := 30) hx hb dX1_dirty_14 (by decide) (fun c_2 => ?_) (fun c_2 => ?_)
        · -- T of pc 14
          refine lv_iconst (v := 0) hx hb dX1_dirty_30 (by decide) ?_
          exact hret _ _ _ _ _ hP hD hS rfl dX1_dirty_31
        · -- F of pc 14
          exact absurd (by decide) c_2
    · simp only [mdt, e1]
      refine ct_i.of (cc := cX1_dirty) (maxL := 2) (ty := .boolean) (by decide) rfl (Nat.le_of_ble_eq_true rfl) (nb_bI _) ?_
      intro p e s m args below meth c ls A Q hx hb hml hts hown hK hP hD hA hS hl hret
      have hown : s.vm.findClass RX1 = some m.cls := hown
      have hl : lv_has ls 2 [(0, .ref h0), (1, .int (nI i))] := hl
      have hP : va_P D vwCl [(h0, .inr (1, [.ref a1, .ref a2, .ref a3, .ref a4, .ref a5, .int 0, .int (bI mk), .int (nI la), .int (lfI lf), .int (nI sh)])), (a1, .inl (k1, 384, .inl gw)), (a2, .inl (k2, 384, .inl gd)), (a3, .inl (k3, 384, .inl gl)), (a4, .inl (k4, 24, .inl (fun j => bI (dz j)))), (a5, .inl (k5, 24, .inl (fun j => bI (lg j))))] s.heap := hP
      have hD : va_D A [(h0, .inr (1, [.ref a1, .ref a2, .ref a3, .ref a4, .ref a5, .int 0, .int (bI mk), .int (nI la), .int (lfI lf), .int (nI sh)])), (a1, .inl (k1, 384, .inl gw)), (a2, .inl (k2, 384, .inl gd)), (a3, .inl (k3, 384, .inl gl)), (a4, .inl (k4, 24, .inl (fun j => bI (dz j)))), (a5, .inl (k5, 24, .inl (fun j => bI (lg j))))] := hD
      refine lv_aload_n hx hb dX1_dirty_0 rfl (lv_at hl 0 rfl) ?_
      refine va_get (ci := 1) (v := .int 0) (C := RX1) (T := TX1) (N := 10) hx hb hts (by decide +kernel) hown hK hP 0 rfl rfl 5 (by decide) (hts (.fieldLink RX1 30 "CommitLogModel" "off" "Z") (by decide +kernel)) (fun _ h9 => h9) rfl dX1_dirty_1 ?_
      refine lv_if_ne (tgt := 30) hx hb dX1_dirty_4 (by decide) (fun c_1 => ?_) (fun c_1 => ?_)
      · -- T of pc 4
        exact absurd (by decide) c_1
      · -- F of pc 4
        refine lv_iload_n hx hb dX1_dirty_7 rfl (lv_at hl 1 rfl) ?_
        refine lv_iconst (v := 0) hx hb dX1_dirty_8 (by decide) ?_
        refine lv_bipush (v := 23) hx hb dX1_dirty_9 (by decide) ?_
        refine ct_Si (As := [.int (nI i), .int 0, .int 23]) (rest := []) (wr := [(h0, .inr (1, [.ref a1, .ref a2, .ref a3, .ref a4, .ref a5, .int 0, .int (bI mk), .int (nI la), .int (lfI lf), .int (nI sh)])), (a1, .inl (k1, 384, .inl gw)), (a2, .inl (k2, 384, .inl gd)), (a3, .inl (k3, 384, .inl gl)), (a4, .inl (k4, 24, .inl (fun j => bI (dz j)))), (a5, .inl (k5, 24, .inl (fun j => bI (lg j))))]) (wn := [(h0, .inr (1, [.ref a1, .ref a2, .ref a3, .ref a4, .ref a5, .int 0, .int (bI mk), .int (nI la), .int (lfI lf), .int (nI sh)])), (a1, .inl (k1, 384, .inl gw)), (a2, .inl (k2, 384, .inl gd)), (a3, .inl (k3, 384, .inl gl)), (a4, .inl (k4, 24, .inl (fun j => bI (dz j)))), (a5, .inl (k5, 24, .inl (fun j => bI (lg j))))]) ⟨hx, hb, hml, hown, hts⟩ (c1_in l D (nI i) 0 23) (va_cwS 3 hts gX1_dirty_X1_in rfl rfl rfl (by decide +kernel) ⟨Nat.le_of_ble_eq_true rfl, Nat.le_of_ble_eq_true rfl⟩) hK hP hD hS hA [] [0, 1, 2, 3, 4, 5] [] [0, 1, 2, 3, 4, 5] rfl rfl (by decide) rfl (by decide) (by decide) rfl (by decide) rfl hl.1 rfl (Nat.le_of_ble_eq_true rfl) dX1_dirty_11 ⟨Nat.zero_le _, Nat.zero_le _⟩ (fun H locs hP hD hS => ?_)
        refine tp_as (z := 1) (by rw [inR_ix 24 (by decide) 23 rfl _, e1]; rfl) ?_
        refine lv_if_eq (tgt := 30) hx hb dX1_dirty_14 (by decide) (fun c_2 => ?_) (fun c_2 => ?_)
        · -- T of pc 14
          exact absurd c_2 (by decide)
        · -- F of pc 14
          refine lv_aload_n hx hb dX1_dirty_17 rfl (lv_at hl 0 rfl) ?_
          refine va_get (ci := 1) (v := .ref a4) (C := RX1) (T := TX1) (N := 10) hx hb hts (by decide +kernel) hown hK hP 0 rfl rfl 3 (by decide) (hts (.fieldLink RX1 19 "CommitLogModel" "dirty" "[Z") (by decide +kernel)) (fun _ h9 => h9) rfl dX1_dirty_18 ?_
          refine lv_iload_n hx hb dX1_dirty_21 rfl (lv_at hl 1 rfl) ?_
          refine va_zald hx hb hK hP 4 3 rfl rfl (vp_in_nI (by omega) (by decide)) dX1_dirty_22 ?_
          refine tp_as (z := bI (dz i)) (by show bI (dz (nI i).toNatClampNeg) = _; rw [cl_nI (by omega)]) ?_
          refine lv_if_eq (tgt := 30) hx hb dX1_dirty_23 (by decide) (fun c_3 => ?_) (fun c_3 => ?_)
          · -- T of pc 23
            refine lv_iconst (v := 0) hx hb dX1_dirty_30 (by decide) ?_
            exact hret _ _ _ _ _ hP hD hS (by first | rfl | exact dz_0 (by assumption) | exact dz_1 (by assumption)) dX1_dirty_31
          · -- F of pc 23
            refine lv_iconst (v := 1) hx hb dX1_dirty_26 (by decide) ?_
            refine lv_goto (tgt := 31) hx hb dX1_dirty_27 (by decide) ?_
            exact hret _ _ _ _ _ hP hD hS (by first | rfl | exact dz_0 (by assumption) | exact dz_1 (by assumption)) dX1_dirty_31
set_option maxHeartbeats 4000000 in
set_option maxRecDepth 100000 in
theorem c1_revert (l : Launch) (D : va_G) (h0 a1 a2 a3 a4 a5 : Nat) (k1 k2 k3 k4 k5 : ClassId) (gw gd gl : Nat → Int32) (dz lg : Nat → Bool) (of mk : Bool) (la : Nat) (lf : Option Nat) (sh : Nat) : ct_i l yX1_revert wsX1_revert ({ frames := 2, cells := 0, slots := 0, locals := 46 }) D vwCl (MT k1 k2 k3 k4 k5) [.ref h0] (MW h0 a1 a2 a3 a4 a5 k1 k2 k3 k4 k5 gw gd gl dz lg of mk la lf sh) (MW h0 a1 a2 a3 a4 a5 k1 k2 k3 k4 k5 (bif of then gw else frK gd gw 24) gd gl (bif of then dz else clr dz 24) lg of mk la lf sh) (bI (!of)) := by
  cases of with
  | true =>
    refine ct_i.of (cc := cX1_revert) (maxL := 1) (ty := .boolean) (by decide) rfl (Nat.le_of_ble_eq_true rfl) (nb_bI _) ?_
    intro p e s m args below meth c ls A Q hx hb hml hts hown hK hP hD hA hS hl hret
    have hown : s.vm.findClass RX1 = some m.cls := hown
    have hl : lv_has ls 1 [(0, .ref h0)] := hl
    have hP : va_P D vwCl [(h0, .inr (1, [.ref a1, .ref a2, .ref a3, .ref a4, .ref a5, .int 1, .int (bI mk), .int (nI la), .int (lfI lf), .int (nI sh)])), (a1, .inl (k1, 384, .inl gw)), (a2, .inl (k2, 384, .inl gd)), (a3, .inl (k3, 384, .inl gl)), (a4, .inl (k4, 24, .inl (fun j => bI (dz j)))), (a5, .inl (k5, 24, .inl (fun j => bI (lg j))))] s.heap := hP
    have hD : va_D A [(h0, .inr (1, [.ref a1, .ref a2, .ref a3, .ref a4, .ref a5, .int 1, .int (bI mk), .int (nI la), .int (lfI lf), .int (nI sh)])), (a1, .inl (k1, 384, .inl gw)), (a2, .inl (k2, 384, .inl gd)), (a3, .inl (k3, 384, .inl gl)), (a4, .inl (k4, 24, .inl (fun j => bI (dz j)))), (a5, .inl (k5, 24, .inl (fun j => bI (lg j))))] := hD
    refine lv_aload_n hx hb dX1_revert_0 rfl (lv_at hl 0 rfl) ?_
    refine va_get (ci := 1) (v := .int 1) (C := RX1) (T := TX1) (N := 10) hx hb hts (by decide +kernel) hown hK hP 0 rfl rfl 5 (by decide) (hts (.fieldLink RX1 30 "CommitLogModel" "off" "Z") (by decide +kernel)) (fun _ h9 => h9) rfl dX1_revert_1 ?_
    refine lv_if_eq (tgt := 9) hx hb dX1_revert_4 (by decide) (fun c_1 => ?_) (fun c_1 => ?_)
    · -- T of pc 4
      exact absurd c_1 (by decide)
    · -- F of pc 4
      refine lv_iconst (v := 0) hx hb dX1_revert_7 (by decide) ?_
      exact hret _ _ _ _ _ hP hD hS rfl dX1_revert_8
  | false =>
    refine ct_i.of (cc := cX1_revert) (maxL := 1) (ty := .boolean) (by decide) rfl (Nat.le_of_ble_eq_true rfl) (nb_bI _) ?_
    intro p e s m args below meth c ls A Q hx hb hml hts hown hK hP hD hA hS hl hret
    have hown : s.vm.findClass RX1 = some m.cls := hown
    have hl : lv_has ls 1 [(0, .ref h0)] := hl
    have hP : va_P D vwCl [(h0, .inr (1, [.ref a1, .ref a2, .ref a3, .ref a4, .ref a5, .int 0, .int (bI mk), .int (nI la), .int (lfI lf), .int (nI sh)])), (a1, .inl (k1, 384, .inl gw)), (a2, .inl (k2, 384, .inl gd)), (a3, .inl (k3, 384, .inl gl)), (a4, .inl (k4, 24, .inl (fun j => bI (dz j)))), (a5, .inl (k5, 24, .inl (fun j => bI (lg j))))] s.heap := hP
    have hD : va_D A [(h0, .inr (1, [.ref a1, .ref a2, .ref a3, .ref a4, .ref a5, .int 0, .int (bI mk), .int (nI la), .int (lfI lf), .int (nI sh)])), (a1, .inl (k1, 384, .inl gw)), (a2, .inl (k2, 384, .inl gd)), (a3, .inl (k3, 384, .inl gl)), (a4, .inl (k4, 24, .inl (fun j => bI (dz j)))), (a5, .inl (k5, 24, .inl (fun j => bI (lg j))))] := hD
    refine lv_aload_n hx hb dX1_revert_0 rfl (lv_at hl 0 rfl) ?_
    refine va_get (ci := 1) (v := .int 0) (C := RX1) (T := TX1) (N := 10) hx hb hts (by decide +kernel) hown hK hP 0 rfl rfl 5 (by decide) (hts (.fieldLink RX1 30 "CommitLogModel" "off" "Z") (by decide +kernel)) (fun _ h9 => h9) rfl dX1_revert_1 ?_
    refine lv_if_eq (tgt := 9) hx hb dX1_revert_4 (by decide) (fun c_1 => ?_) (fun c_1 => ?_)
    · -- T of pc 4
      refine lv_aload_n hx hb dX1_revert_9 rfl (lv_at hl 0 rfl) ?_
      refine ct_Vv (As := []) (rest := []) (wr := []) (wn := [(h0, .inr (1, [.ref a1, .ref a2, .ref a3, .ref a4, .ref a5, .int 0, .int (bI mk), .int (nI la), .int (lfI lf), .int (nI sh)])), (a1, .inl (k1, 384, .inl (frK gd gw 24))), (a2, .inl (k2, 384, .inl gd)), (a3, .inl (k3, 384, .inl gl)), (a4, .inl (k4, 24, .inl (fun j => bI ((clr dz 24) j)))), (a5, .inl (k5, 24, .inl (fun j => bI (lg j))))]) ⟨hx, hb, hml, hown, hts⟩ (c1_fresh l D h0 a1 a2 a3 a4 a5 k1 k2 k3 k4 k5 gw gd gl dz lg false mk la lf sh) (cwV 0 hts gX1_revert_X1_fresh rfl rfl rfl (by decide +kernel) ⟨Nat.le_of_ble_eq_true rfl, Nat.le_of_ble_eq_true rfl⟩) hK hP hD hS hA [0, 1, 2, 3, 4, 5] [] [0, 1, 2, 3, 4] [0, 1, 2, 3, 4, 5] rfl rfl (by decide) rfl (by decide) (by decide) rfl (by decide) 1 rfl 0 rfl rfl hl.1 rfl (Nat.le_of_ble_eq_true rfl) dX1_revert_10 ⟨Nat.zero_le _, Nat.zero_le _⟩ (fun H locs hP hD hS => ?_)
      refine lv_iconst (v := 1) hx hb dX1_revert_13 (by decide) ?_
      exact hret _ _ _ _ _ hP hD hS rfl dX1_revert_14
    · -- F of pc 4
      exact absurd (by decide) c_1
set_option maxHeartbeats 4000000 in
set_option maxRecDepth 100000 in
theorem c1_cut (l : Launch) (D : va_G) (h0 a1 a2 a3 a4 a5 : Nat) (k1 k2 k3 k4 k5 : ClassId) (gw gd gl : Nat → Int32) (dz lg : Nat → Bool) (of mk : Bool) (la : Nat) (lf : Option Nat) (sh : Nat) (n t : Int32) : ct_i l yX1_cut wsX1_cut ({ frames := 1, cells := 0, slots := 0, locals := 22 }) D vwCl (MT k1 k2 k3 k4 k5) [.ref h0, .int n, .int t] (MW h0 a1 a2 a3 a4 a5 k1 k2 k3 k4 k5 gw gd gl dz lg of mk la lf sh) (MW h0 a1 a2 a3 a4 a5 k1 k2 k3 k4 k5 gw gd gl dz lg of mk la ((mct of lf sh n t).1) ((mct of lf sh n t).2.1)) (bI (mct of lf sh n t).2.2) := by
  cases of with
  | true =>
    simp only [mct]
    refine ct_i.of (cc := cX1_cut) (maxL := 3) (ty := .boolean) (by decide) rfl (Nat.le_of_ble_eq_true rfl) (nb_bI _) ?_
    intro p e s m args below meth c ls A Q hx hb hml hts hown hK hP hD hA hS hl hret
    have hown : s.vm.findClass RX1 = some m.cls := hown
    have hl : lv_has ls 3 [(0, .ref h0), (1, .int n), (2, .int t)] := hl
    have hP : va_P D vwCl [(h0, .inr (1, [.ref a1, .ref a2, .ref a3, .ref a4, .ref a5, .int 1, .int (bI mk), .int (nI la), .int (lfI lf), .int (nI sh)])), (a1, .inl (k1, 384, .inl gw)), (a2, .inl (k2, 384, .inl gd)), (a3, .inl (k3, 384, .inl gl)), (a4, .inl (k4, 24, .inl (fun j => bI (dz j)))), (a5, .inl (k5, 24, .inl (fun j => bI (lg j))))] s.heap := hP
    have hD : va_D A [(h0, .inr (1, [.ref a1, .ref a2, .ref a3, .ref a4, .ref a5, .int 1, .int (bI mk), .int (nI la), .int (lfI lf), .int (nI sh)])), (a1, .inl (k1, 384, .inl gw)), (a2, .inl (k2, 384, .inl gd)), (a3, .inl (k3, 384, .inl gl)), (a4, .inl (k4, 24, .inl (fun j => bI (dz j)))), (a5, .inl (k5, 24, .inl (fun j => bI (lg j))))] := hD
    refine lv_aload_n hx hb dX1_cut_0 rfl (lv_at hl 0 rfl) ?_
    refine va_get (ci := 1) (v := .int 1) (C := RX1) (T := TX1) (N := 10) hx hb hts (by decide +kernel) hown hK hP 0 rfl rfl 5 (by decide) (hts (.fieldLink RX1 30 "CommitLogModel" "off" "Z") (by decide +kernel)) (fun _ h9 => h9) rfl dX1_cut_1 ?_
    refine lv_if_ne (tgt := 29) hx hb dX1_cut_4 (by decide) (fun c_1 => ?_) (fun c_1 => ?_)
    · -- T of pc 4
      refine lv_iconst (v := 0) hx hb dX1_cut_29 (by decide) ?_
      exact hret _ _ _ _ _ hP hD hS rfl dX1_cut_30
    · -- F of pc 4
      exact absurd c_1 (by decide)
  | false =>
    rcases ix_cases 1001 (by decide) n with ⟨e1, -⟩ | ⟨k, hk, rfl, e1⟩
    · simp only [mct, e1]
      refine ct_i.of (cc := cX1_cut) (maxL := 3) (ty := .boolean) (by decide) rfl (Nat.le_of_ble_eq_true rfl) (nb_bI _) ?_
      intro p e s m args below meth c ls A Q hx hb hml hts hown hK hP hD hA hS hl hret
      have hown : s.vm.findClass RX1 = some m.cls := hown
      have hl : lv_has ls 3 [(0, .ref h0), (1, .int n), (2, .int t)] := hl
      have hP : va_P D vwCl [(h0, .inr (1, [.ref a1, .ref a2, .ref a3, .ref a4, .ref a5, .int 0, .int (bI mk), .int (nI la), .int (lfI lf), .int (nI sh)])), (a1, .inl (k1, 384, .inl gw)), (a2, .inl (k2, 384, .inl gd)), (a3, .inl (k3, 384, .inl gl)), (a4, .inl (k4, 24, .inl (fun j => bI (dz j)))), (a5, .inl (k5, 24, .inl (fun j => bI (lg j))))] s.heap := hP
      have hD : va_D A [(h0, .inr (1, [.ref a1, .ref a2, .ref a3, .ref a4, .ref a5, .int 0, .int (bI mk), .int (nI la), .int (lfI lf), .int (nI sh)])), (a1, .inl (k1, 384, .inl gw)), (a2, .inl (k2, 384, .inl gd)), (a3, .inl (k3, 384, .inl gl)), (a4, .inl (k4, 24, .inl (fun j => bI (dz j)))), (a5, .inl (k5, 24, .inl (fun j => bI (lg j))))] := hD
      refine lv_aload_n hx hb dX1_cut_0 rfl (lv_at hl 0 rfl) ?_
      refine va_get (ci := 1) (v := .int 0) (C := RX1) (T := TX1) (N := 10) hx hb hts (by decide +kernel) hown hK hP 0 rfl rfl 5 (by decide) (hts (.fieldLink RX1 30 "CommitLogModel" "off" "Z") (by decide +kernel)) (fun _ h9 => h9) rfl dX1_cut_1 ?_
      refine lv_if_ne (tgt := 29) hx hb dX1_cut_4 (by decide) (fun c_1 => ?_) (fun c_1 => ?_)
      · -- T of pc 4
        exact absurd (by decide) c_1
      · -- F of pc 4
        refine lv_iload_n hx hb dX1_cut_7 rfl (lv_at hl 1 rfl) ?_
        refine lv_iconst (v := 1) hx hb dX1_cut_8 (by decide) ?_
        refine lv_sipush (v := 1000) hx hb dX1_cut_9 (by decide) ?_
        refine ct_Si (As := [.int n, .int 1, .int 1000]) (rest := []) (wr := [(h0, .inr (1, [.ref a1, .ref a2, .ref a3, .ref a4, .ref a5, .int 0, .int (bI mk), .int (nI la), .int (lfI lf), .int (nI sh)])), (a1, .inl (k1, 384, .inl gw)), (a2, .inl (k2, 384, .inl gd)), (a3, .inl (k3, 384, .inl gl)), (a4, .inl (k4, 24, .inl (fun j => bI (dz j)))), (a5, .inl (k5, 24, .inl (fun j => bI (lg j))))]) (wn := [(h0, .inr (1, [.ref a1, .ref a2, .ref a3, .ref a4, .ref a5, .int 0, .int (bI mk), .int (nI la), .int (lfI lf), .int (nI sh)])), (a1, .inl (k1, 384, .inl gw)), (a2, .inl (k2, 384, .inl gd)), (a3, .inl (k3, 384, .inl gl)), (a4, .inl (k4, 24, .inl (fun j => bI (dz j)))), (a5, .inl (k5, 24, .inl (fun j => bI (lg j))))]) ⟨hx, hb, hml, hown, hts⟩ (c1_in l D n 1 1000) (va_cwS 3 hts gX1_cut_X1_in rfl rfl rfl (by decide +kernel) ⟨Nat.le_of_ble_eq_true rfl, Nat.le_of_ble_eq_true rfl⟩) hK hP hD hS hA [] [0, 1, 2, 3, 4, 5] [] [0, 1, 2, 3, 4, 5] rfl rfl (by decide) rfl (by decide) (by decide) rfl (by decide) rfl hl.1 rfl (Nat.le_of_ble_eq_true rfl) dX1_cut_12 ⟨Nat.zero_le _, Nat.zero_le _⟩ (fun H locs hP hD hS => ?_)
        refine tp_as (z := 0) (by rw [inR_1k, e1]; rfl) ?_
        refine lv_if_eq (tgt := 29) hx hb dX1_cut_15 (by decide) (fun c_2 => ?_) (fun c_2 => ?_)
        · -- T of pc 15
          refine lv_iconst (v := 0) hx hb dX1_cut_29 (by decide) ?_
          exact hret _ _ _ _ _ hP hD hS rfl dX1_cut_30
        · -- F of pc 15
          exact absurd (by decide) c_2
    · match k, hk, e1 with
      | 0, _, e1 =>
        simp only [mct, e1]
        refine ct_i.of (cc := cX1_cut) (maxL := 3) (ty := .boolean) (by decide) rfl (Nat.le_of_ble_eq_true rfl) (nb_bI _) ?_
        intro p e s m args below meth c ls A Q hx hb hml hts hown hK hP hD hA hS hl hret
        have hown : s.vm.findClass RX1 = some m.cls := hown
        have hl : lv_has ls 3 [(0, .ref h0), (1, .int (nI 0)), (2, .int t)] := hl
        have hP : va_P D vwCl [(h0, .inr (1, [.ref a1, .ref a2, .ref a3, .ref a4, .ref a5, .int 0, .int (bI mk), .int (nI la), .int (lfI lf), .int (nI sh)])), (a1, .inl (k1, 384, .inl gw)), (a2, .inl (k2, 384, .inl gd)), (a3, .inl (k3, 384, .inl gl)), (a4, .inl (k4, 24, .inl (fun j => bI (dz j)))), (a5, .inl (k5, 24, .inl (fun j => bI (lg j))))] s.heap := hP
        have hD : va_D A [(h0, .inr (1, [.ref a1, .ref a2, .ref a3, .ref a4, .ref a5, .int 0, .int (bI mk), .int (nI la), .int (lfI lf), .int (nI sh)])), (a1, .inl (k1, 384, .inl gw)), (a2, .inl (k2, 384, .inl gd)), (a3, .inl (k3, 384, .inl gl)), (a4, .inl (k4, 24, .inl (fun j => bI (dz j)))), (a5, .inl (k5, 24, .inl (fun j => bI (lg j))))] := hD
        refine lv_aload_n hx hb dX1_cut_0 rfl (lv_at hl 0 rfl) ?_
        refine va_get (ci := 1) (v := .int 0) (C := RX1) (T := TX1) (N := 10) hx hb hts (by decide +kernel) hown hK hP 0 rfl rfl 5 (by decide) (hts (.fieldLink RX1 30 "CommitLogModel" "off" "Z") (by decide +kernel)) (fun _ h9 => h9) rfl dX1_cut_1 ?_
        refine lv_if_ne (tgt := 29) hx hb dX1_cut_4 (by decide) (fun c_1 => ?_) (fun c_1 => ?_)
        · -- T of pc 4
          exact absurd (by decide) c_1
        · -- F of pc 4
          refine lv_iload_n hx hb dX1_cut_7 rfl (lv_at hl 1 rfl) ?_
          refine lv_iconst (v := 1) hx hb dX1_cut_8 (by decide) ?_
          refine lv_sipush (v := 1000) hx hb dX1_cut_9 (by decide) ?_
          refine ct_Si (As := [.int (nI 0), .int 1, .int 1000]) (rest := []) (wr := [(h0, .inr (1, [.ref a1, .ref a2, .ref a3, .ref a4, .ref a5, .int 0, .int (bI mk), .int (nI la), .int (lfI lf), .int (nI sh)])), (a1, .inl (k1, 384, .inl gw)), (a2, .inl (k2, 384, .inl gd)), (a3, .inl (k3, 384, .inl gl)), (a4, .inl (k4, 24, .inl (fun j => bI (dz j)))), (a5, .inl (k5, 24, .inl (fun j => bI (lg j))))]) (wn := [(h0, .inr (1, [.ref a1, .ref a2, .ref a3, .ref a4, .ref a5, .int 0, .int (bI mk), .int (nI la), .int (lfI lf), .int (nI sh)])), (a1, .inl (k1, 384, .inl gw)), (a2, .inl (k2, 384, .inl gd)), (a3, .inl (k3, 384, .inl gl)), (a4, .inl (k4, 24, .inl (fun j => bI (dz j)))), (a5, .inl (k5, 24, .inl (fun j => bI (lg j))))]) ⟨hx, hb, hml, hown, hts⟩ (c1_in l D (nI 0) 1 1000) (va_cwS 3 hts gX1_cut_X1_in rfl rfl rfl (by decide +kernel) ⟨Nat.le_of_ble_eq_true rfl, Nat.le_of_ble_eq_true rfl⟩) hK hP hD hS hA [] [0, 1, 2, 3, 4, 5] [] [0, 1, 2, 3, 4, 5] rfl rfl (by decide) rfl (by decide) (by decide) rfl (by decide) rfl hl.1 rfl (Nat.le_of_ble_eq_true rfl) dX1_cut_12 ⟨Nat.zero_le _, Nat.zero_le _⟩ (fun H locs hP hD hS => ?_)
          refine tp_as (z := 0) (by rw [inR_1k, e1]; rfl) ?_
          refine lv_if_eq (tgt := 29) hx hb dX1_cut_15 (by decide) (fun c_2 => ?_) (fun c_2 => ?_)
          · -- T of pc 15
            refine lv_iconst (v := 0) hx hb dX1_cut_29 (by decide) ?_
            exact hret _ _ _ _ _ hP hD hS rfl dX1_cut_30
          · -- F of pc 15
            exact absurd (by decide) c_2
      | k + 1, hk, e1 =>
        rcases ix_cases 1000 (by decide) t with ⟨e2, -⟩ | ⟨j, hj, rfl, e2⟩
        · simp only [mct, e1, e2]
          refine ct_i.of (cc := cX1_cut) (maxL := 3) (ty := .boolean) (by decide) rfl (Nat.le_of_ble_eq_true rfl) (nb_bI _) ?_
          intro p e s m args below meth c ls A Q hx hb hml hts hown hK hP hD hA hS hl hret
          have hown : s.vm.findClass RX1 = some m.cls := hown
          have hl : lv_has ls 3 [(0, .ref h0), (1, .int (nI (k + 1))), (2, .int t)] := hl
          have hP : va_P D vwCl [(h0, .inr (1, [.ref a1, .ref a2, .ref a3, .ref a4, .ref a5, .int 0, .int (bI mk), .int (nI la), .int (lfI lf), .int (nI sh)])), (a1, .inl (k1, 384, .inl gw)), (a2, .inl (k2, 384, .inl gd)), (a3, .inl (k3, 384, .inl gl)), (a4, .inl (k4, 24, .inl (fun j => bI (dz j)))), (a5, .inl (k5, 24, .inl (fun j => bI (lg j))))] s.heap := hP
          have hD : va_D A [(h0, .inr (1, [.ref a1, .ref a2, .ref a3, .ref a4, .ref a5, .int 0, .int (bI mk), .int (nI la), .int (lfI lf), .int (nI sh)])), (a1, .inl (k1, 384, .inl gw)), (a2, .inl (k2, 384, .inl gd)), (a3, .inl (k3, 384, .inl gl)), (a4, .inl (k4, 24, .inl (fun j => bI (dz j)))), (a5, .inl (k5, 24, .inl (fun j => bI (lg j))))] := hD
          refine lv_aload_n hx hb dX1_cut_0 rfl (lv_at hl 0 rfl) ?_
          refine va_get (ci := 1) (v := .int 0) (C := RX1) (T := TX1) (N := 10) hx hb hts (by decide +kernel) hown hK hP 0 rfl rfl 5 (by decide) (hts (.fieldLink RX1 30 "CommitLogModel" "off" "Z") (by decide +kernel)) (fun _ h9 => h9) rfl dX1_cut_1 ?_
          refine lv_if_ne (tgt := 29) hx hb dX1_cut_4 (by decide) (fun c_1 => ?_) (fun c_1 => ?_)
          · -- T of pc 4
            exact absurd (by decide) c_1
          · -- F of pc 4
            refine lv_iload_n hx hb dX1_cut_7 rfl (lv_at hl 1 rfl) ?_
            refine lv_iconst (v := 1) hx hb dX1_cut_8 (by decide) ?_
            refine lv_sipush (v := 1000) hx hb dX1_cut_9 (by decide) ?_
            refine ct_Si (As := [.int (nI (k + 1)), .int 1, .int 1000]) (rest := []) (wr := [(h0, .inr (1, [.ref a1, .ref a2, .ref a3, .ref a4, .ref a5, .int 0, .int (bI mk), .int (nI la), .int (lfI lf), .int (nI sh)])), (a1, .inl (k1, 384, .inl gw)), (a2, .inl (k2, 384, .inl gd)), (a3, .inl (k3, 384, .inl gl)), (a4, .inl (k4, 24, .inl (fun j => bI (dz j)))), (a5, .inl (k5, 24, .inl (fun j => bI (lg j))))]) (wn := [(h0, .inr (1, [.ref a1, .ref a2, .ref a3, .ref a4, .ref a5, .int 0, .int (bI mk), .int (nI la), .int (lfI lf), .int (nI sh)])), (a1, .inl (k1, 384, .inl gw)), (a2, .inl (k2, 384, .inl gd)), (a3, .inl (k3, 384, .inl gl)), (a4, .inl (k4, 24, .inl (fun j => bI (dz j)))), (a5, .inl (k5, 24, .inl (fun j => bI (lg j))))]) ⟨hx, hb, hml, hown, hts⟩ (c1_in l D (nI (k + 1)) 1 1000) (va_cwS 3 hts gX1_cut_X1_in rfl rfl rfl (by decide +kernel) ⟨Nat.le_of_ble_eq_true rfl, Nat.le_of_ble_eq_true rfl⟩) hK hP hD hS hA [] [0, 1, 2, 3, 4, 5] [] [0, 1, 2, 3, 4, 5] rfl rfl (by decide) rfl (by decide) (by decide) rfl (by decide) rfl hl.1 rfl (Nat.le_of_ble_eq_true rfl) dX1_cut_12 ⟨Nat.zero_le _, Nat.zero_le _⟩ (fun H locs hP hD hS => ?_)
            refine tp_as (z := 1) (by rw [inR_1k, e1]; rfl) ?_
            refine lv_if_eq (tgt := 29) hx hb dX1_cut_15 (by decide) (fun c_2 => ?_) (fun c_2 => ?_)
            · -- T of pc 15
              exact absurd c_2 (by decide)
            · -- F of pc 15
              refine lv_iload_n hx hb dX1_cut_18 rfl (lv_at hl 2 rfl) ?_
              refine lv_iconst (v := 0) hx hb dX1_cut_19 (by decide) ?_
              refine lv_sipush (v := 999) hx hb dX1_cut_20 (by decide) ?_
              refine ct_Si (As := [.int t, .int 0, .int 999]) (rest := []) (wr := [(h0, .inr (1, [.ref a1, .ref a2, .ref a3, .ref a4, .ref a5, .int 0, .int (bI mk), .int (nI la), .int (lfI lf), .int (nI sh)])), (a1, .inl (k1, 384, .inl gw)), (a2, .inl (k2, 384, .inl gd)), (a3, .inl (k3, 384, .inl gl)), (a4, .inl (k4, 24, .inl (fun j => bI (dz j)))), (a5, .inl (k5, 24, .inl (fun j => bI (lg j))))]) (wn := [(h0, .inr (1, [.ref a1, .ref a2, .ref a3, .ref a4, .ref a5, .int 0, .int (bI mk), .int (nI la), .int (lfI lf), .int (nI sh)])), (a1, .inl (k1, 384, .inl gw)), (a2, .inl (k2, 384, .inl gd)), (a3, .inl (k3, 384, .inl gl)), (a4, .inl (k4, 24, .inl (fun j => bI (dz j)))), (a5, .inl (k5, 24, .inl (fun j => bI (lg j))))]) ⟨hx, hb, hml, hown, hts⟩ (c1_in l D t 0 999) (va_cwS 3 hts gX1_cut_X1_in rfl rfl rfl (by decide +kernel) ⟨Nat.le_of_ble_eq_true rfl, Nat.le_of_ble_eq_true rfl⟩) hK hP hD hS hA [] [0, 1, 2, 3, 4, 5] [] [0, 1, 2, 3, 4, 5] rfl rfl (by decide) rfl (by decide) (by decide) rfl (by decide) rfl hl.1 rfl (Nat.le_of_ble_eq_true rfl) dX1_cut_23 ⟨Nat.zero_le _, Nat.zero_le _⟩ (fun H locs hP hD hS => ?_)
              refine tp_as (z := 0) (by rw [inR_ix 1000 (by decide) 999 rfl _, e2]; rfl) ?_
              refine lv_if_ne (tgt := 31) hx hb dX1_cut_26 (by decide) (fun c_3 => ?_) (fun c_3 => ?_)
              · -- T of pc 26
                exact absurd (by decide) c_3
              · -- F of pc 26
                refine lv_iconst (v := 0) hx hb dX1_cut_29 (by decide) ?_
                exact hret _ _ _ _ _ hP hD hS rfl dX1_cut_30
        · simp only [mct, e1, e2]
          refine ct_i.of (cc := cX1_cut) (maxL := 3) (ty := .boolean) (by decide) rfl (Nat.le_of_ble_eq_true rfl) (nb_bI _) ?_
          intro p e s m args below meth c ls A Q hx hb hml hts hown hK hP hD hA hS hl hret
          have hown : s.vm.findClass RX1 = some m.cls := hown
          have hl : lv_has ls 3 [(0, .ref h0), (1, .int (nI (k + 1))), (2, .int (nI j))] := hl
          have hP : va_P D vwCl [(h0, .inr (1, [.ref a1, .ref a2, .ref a3, .ref a4, .ref a5, .int 0, .int (bI mk), .int (nI la), .int (lfI lf), .int (nI sh)])), (a1, .inl (k1, 384, .inl gw)), (a2, .inl (k2, 384, .inl gd)), (a3, .inl (k3, 384, .inl gl)), (a4, .inl (k4, 24, .inl (fun j => bI (dz j)))), (a5, .inl (k5, 24, .inl (fun j => bI (lg j))))] s.heap := hP
          have hD : va_D A [(h0, .inr (1, [.ref a1, .ref a2, .ref a3, .ref a4, .ref a5, .int 0, .int (bI mk), .int (nI la), .int (lfI lf), .int (nI sh)])), (a1, .inl (k1, 384, .inl gw)), (a2, .inl (k2, 384, .inl gd)), (a3, .inl (k3, 384, .inl gl)), (a4, .inl (k4, 24, .inl (fun j => bI (dz j)))), (a5, .inl (k5, 24, .inl (fun j => bI (lg j))))] := hD
          refine lv_aload_n hx hb dX1_cut_0 rfl (lv_at hl 0 rfl) ?_
          refine va_get (ci := 1) (v := .int 0) (C := RX1) (T := TX1) (N := 10) hx hb hts (by decide +kernel) hown hK hP 0 rfl rfl 5 (by decide) (hts (.fieldLink RX1 30 "CommitLogModel" "off" "Z") (by decide +kernel)) (fun _ h9 => h9) rfl dX1_cut_1 ?_
          refine lv_if_ne (tgt := 29) hx hb dX1_cut_4 (by decide) (fun c_1 => ?_) (fun c_1 => ?_)
          · -- T of pc 4
            exact absurd (by decide) c_1
          · -- F of pc 4
            refine lv_iload_n hx hb dX1_cut_7 rfl (lv_at hl 1 rfl) ?_
            refine lv_iconst (v := 1) hx hb dX1_cut_8 (by decide) ?_
            refine lv_sipush (v := 1000) hx hb dX1_cut_9 (by decide) ?_
            refine ct_Si (As := [.int (nI (k + 1)), .int 1, .int 1000]) (rest := []) (wr := [(h0, .inr (1, [.ref a1, .ref a2, .ref a3, .ref a4, .ref a5, .int 0, .int (bI mk), .int (nI la), .int (lfI lf), .int (nI sh)])), (a1, .inl (k1, 384, .inl gw)), (a2, .inl (k2, 384, .inl gd)), (a3, .inl (k3, 384, .inl gl)), (a4, .inl (k4, 24, .inl (fun j => bI (dz j)))), (a5, .inl (k5, 24, .inl (fun j => bI (lg j))))]) (wn := [(h0, .inr (1, [.ref a1, .ref a2, .ref a3, .ref a4, .ref a5, .int 0, .int (bI mk), .int (nI la), .int (lfI lf), .int (nI sh)])), (a1, .inl (k1, 384, .inl gw)), (a2, .inl (k2, 384, .inl gd)), (a3, .inl (k3, 384, .inl gl)), (a4, .inl (k4, 24, .inl (fun j => bI (dz j)))), (a5, .inl (k5, 24, .inl (fun j => bI (lg j))))]) ⟨hx, hb, hml, hown, hts⟩ (c1_in l D (nI (k + 1)) 1 1000) (va_cwS 3 hts gX1_cut_X1_in rfl rfl rfl (by decide +kernel) ⟨Nat.le_of_ble_eq_true rfl, Nat.le_of_ble_eq_true rfl⟩) hK hP hD hS hA [] [0, 1, 2, 3, 4, 5] [] [0, 1, 2, 3, 4, 5] rfl rfl (by decide) rfl (by decide) (by decide) rfl (by decide) rfl hl.1 rfl (Nat.le_of_ble_eq_true rfl) dX1_cut_12 ⟨Nat.zero_le _, Nat.zero_le _⟩ (fun H locs hP hD hS => ?_)
            refine tp_as (z := 1) (by rw [inR_1k, e1]; rfl) ?_
            refine lv_if_eq (tgt := 29) hx hb dX1_cut_15 (by decide) (fun c_2 => ?_) (fun c_2 => ?_)
            · -- T of pc 15
              exact absurd c_2 (by decide)
            · -- F of pc 15
              refine lv_iload_n hx hb dX1_cut_18 rfl (lv_at hl 2 rfl) ?_
              refine lv_iconst (v := 0) hx hb dX1_cut_19 (by decide) ?_
              refine lv_sipush (v := 999) hx hb dX1_cut_20 (by decide) ?_
              refine ct_Si (As := [.int (nI j), .int 0, .int 999]) (rest := []) (wr := [(h0, .inr (1, [.ref a1, .ref a2, .ref a3, .ref a4, .ref a5, .int 0, .int (bI mk), .int (nI la), .int (lfI lf), .int (nI sh)])), (a1, .inl (k1, 384, .inl gw)), (a2, .inl (k2, 384, .inl gd)), (a3, .inl (k3, 384, .inl gl)), (a4, .inl (k4, 24, .inl (fun j => bI (dz j)))), (a5, .inl (k5, 24, .inl (fun j => bI (lg j))))]) (wn := [(h0, .inr (1, [.ref a1, .ref a2, .ref a3, .ref a4, .ref a5, .int 0, .int (bI mk), .int (nI la), .int (lfI lf), .int (nI sh)])), (a1, .inl (k1, 384, .inl gw)), (a2, .inl (k2, 384, .inl gd)), (a3, .inl (k3, 384, .inl gl)), (a4, .inl (k4, 24, .inl (fun j => bI (dz j)))), (a5, .inl (k5, 24, .inl (fun j => bI (lg j))))]) ⟨hx, hb, hml, hown, hts⟩ (c1_in l D (nI j) 0 999) (va_cwS 3 hts gX1_cut_X1_in rfl rfl rfl (by decide +kernel) ⟨Nat.le_of_ble_eq_true rfl, Nat.le_of_ble_eq_true rfl⟩) hK hP hD hS hA [] [0, 1, 2, 3, 4, 5] [] [0, 1, 2, 3, 4, 5] rfl rfl (by decide) rfl (by decide) (by decide) rfl (by decide) rfl hl.1 rfl (Nat.le_of_ble_eq_true rfl) dX1_cut_23 ⟨Nat.zero_le _, Nat.zero_le _⟩ (fun H locs hP hD hS => ?_)
              refine tp_as (z := 1) (by rw [inR_ix 1000 (by decide) 999 rfl _, e2]; rfl) ?_
              refine lv_if_ne (tgt := 31) hx hb dX1_cut_26 (by decide) (fun c_3 => ?_) (fun c_3 => ?_)
              · -- T of pc 26
                refine lv_aload_n hx hb dX1_cut_31 rfl (lv_at hl 0 rfl) ?_
                refine lv_iload_n hx hb dX1_cut_32 rfl (lv_at hl 1 rfl) ?_
                refine va_put (ci := 1) (v := .int (nI (k + 1))) (ty := .int) (C := RX1) (T := TX1) (N := 10) hx hb hts (by decide +kernel) tyX1 tyX1_ok nmX1 hown hK hP hD hS 0 rfl rfl 8 (by decide) (hts (.fieldLink RX1 53 "CommitLogModel" "left" "I") (by decide +kernel)) (fun _ h9 => h9) rfl (by decide +kernel) rfl rfl (Nat.le_of_ble_eq_true rfl) dX1_cut_33 (fun H locs hP hD hS => ?_)
                have hP : va_P D vwCl [(h0, .inr (1, [.ref a1, .ref a2, .ref a3, .ref a4, .ref a5, .int 0, .int (bI mk), .int (nI la), .int (nI (k + 1)), .int (nI sh)])), (a1, .inl (k1, 384, .inl gw)), (a2, .inl (k2, 384, .inl gd)), (a3, .inl (k3, 384, .inl gl)), (a4, .inl (k4, 24, .inl (fun j => bI (dz j)))), (a5, .inl (k5, 24, .inl (fun j => bI (lg j))))] H := hP
                have hD : va_D _ [(h0, .inr (1, [.ref a1, .ref a2, .ref a3, .ref a4, .ref a5, .int 0, .int (bI mk), .int (nI la), .int (nI (k + 1)), .int (nI sh)])), (a1, .inl (k1, 384, .inl gw)), (a2, .inl (k2, 384, .inl gd)), (a3, .inl (k3, 384, .inl gl)), (a4, .inl (k4, 24, .inl (fun j => bI (dz j)))), (a5, .inl (k5, 24, .inl (fun j => bI (lg j))))] := hD
                refine lv_aload_n hx hb dX1_cut_36 rfl (lv_at hl 0 rfl) ?_
                refine lv_iload_n hx hb dX1_cut_37 rfl (lv_at hl 2 rfl) ?_
                refine va_put (ci := 1) (v := .int (nI j)) (ty := .int) (C := RX1) (T := TX1) (N := 10) hx hb hts (by decide +kernel) tyX1 tyX1_ok nmX1 hown hK hP hD hS 0 rfl rfl 9 (by decide) (hts (.fieldLink RX1 56 "CommitLogModel" "share" "I") (by decide +kernel)) (fun _ h9 => h9) rfl (by decide +kernel) rfl rfl (Nat.le_of_ble_eq_true rfl) dX1_cut_38 (fun H locs hP hD hS => ?_)
                have hP : va_P D vwCl [(h0, .inr (1, [.ref a1, .ref a2, .ref a3, .ref a4, .ref a5, .int 0, .int (bI mk), .int (nI la), .int (nI (k + 1)), .int (nI j)])), (a1, .inl (k1, 384, .inl gw)), (a2, .inl (k2, 384, .inl gd)), (a3, .inl (k3, 384, .inl gl)), (a4, .inl (k4, 24, .inl (fun j => bI (dz j)))), (a5, .inl (k5, 24, .inl (fun j => bI (lg j))))] H := hP
                have hD : va_D _ [(h0, .inr (1, [.ref a1, .ref a2, .ref a3, .ref a4, .ref a5, .int 0, .int (bI mk), .int (nI la), .int (nI (k + 1)), .int (nI j)])), (a1, .inl (k1, 384, .inl gw)), (a2, .inl (k2, 384, .inl gd)), (a3, .inl (k3, 384, .inl gl)), (a4, .inl (k4, 24, .inl (fun j => bI (dz j)))), (a5, .inl (k5, 24, .inl (fun j => bI (lg j))))] := hD
                refine lv_iconst (v := 1) hx hb dX1_cut_41 (by decide) ?_
                exact hret _ _ _ _ _ hP hD hS rfl dX1_cut_42
              · -- F of pc 26
                exact absurd c_3 (by decide)
set_option maxHeartbeats 4000000 in
set_option maxRecDepth 100000 in
theorem c1_state (l : Launch) (D : va_G) (h0 a1 a2 a3 a4 a5 : Nat) (k1 k2 k3 k4 k5 : ClassId) (gw gd gl : Nat → Int32) (dz lg : Nat → Bool) (of mk : Bool) (la : Nat) (lf : Option Nat) (sh : Nat) (x : Int32) : ct_i l yX1_state wsX1_state ({ frames := 0, cells := 0, slots := 0, locals := 0 }) D vwCl (MT k1 k2 k3 k4 k5) [.ref h0, .int x] (MW h0 a1 a2 a3 a4 a5 k1 k2 k3 k4 k5 gw gd gl dz lg of mk la lf sh) (MW h0 a1 a2 a3 a4 a5 k1 k2 k3 k4 k5 gw gd gl dz lg of mk la lf sh) (mst of mk la x) := by
  rcases ix_cases 3 (by decide) x with ⟨e1, h1⟩ | ⟨k, hk, rfl, e1⟩
  · simp only [mst, e1]
    have h1 := st_out h1
    refine ct_i.of (cc := cX1_state) (maxL := 2) (ty := .int) (by decide) rfl (Nat.le_of_ble_eq_true rfl) rfl ?_
    intro p e s m args below meth c ls A Q hx hb hml hts hown hK hP hD hA hS hl hret
    have hown : s.vm.findClass RX1 = some m.cls := hown
    have hl : lv_has ls 2 [(0, .ref h0), (1, .int x)] := hl
    have hP : va_P D vwCl [(h0, .inr (1, [.ref a1, .ref a2, .ref a3, .ref a4, .ref a5, .int (bI of), .int (bI mk), .int (nI la), .int (lfI lf), .int (nI sh)])), (a1, .inl (k1, 384, .inl gw)), (a2, .inl (k2, 384, .inl gd)), (a3, .inl (k3, 384, .inl gl)), (a4, .inl (k4, 24, .inl (fun j => bI (dz j)))), (a5, .inl (k5, 24, .inl (fun j => bI (lg j))))] s.heap := hP
    have hD : va_D A [(h0, .inr (1, [.ref a1, .ref a2, .ref a3, .ref a4, .ref a5, .int (bI of), .int (bI mk), .int (nI la), .int (lfI lf), .int (nI sh)])), (a1, .inl (k1, 384, .inl gw)), (a2, .inl (k2, 384, .inl gd)), (a3, .inl (k3, 384, .inl gl)), (a4, .inl (k4, 24, .inl (fun j => bI (dz j)))), (a5, .inl (k5, 24, .inl (fun j => bI (lg j))))] := hD
    refine lv_iload_n hx hb dX1_state_0 rfl (lv_at hl 1 rfl) ?_
    refine lv_tableOut (tgt := 59) hx hb dX1_state_1 h1 (by decide) ?_
    refine lv_iconst (v := (-1)) hx hb dX1_state_59 (by decide) ?_
    exact hret _ _ _ _ _ hP hD hS (by first | rfl | exact dz_0 (by assumption) | exact dz_1 (by assumption) | exact bn_0 (by assumption) | exact bn_1 (by assumption)) dX1_state_60
  · match k, hk, e1 with
    | 0, _, e1 =>
      simp only [mst, e1]
      refine ct_i.of (cc := cX1_state) (maxL := 2) (ty := .int) (by decide) rfl (Nat.le_of_ble_eq_true rfl) rfl ?_
      intro p e s m args below meth c ls A Q hx hb hml hts hown hK hP hD hA hS hl hret
      have hown : s.vm.findClass RX1 = some m.cls := hown
      have hl : lv_has ls 2 [(0, .ref h0), (1, .int (nI 0))] := hl
      have hP : va_P D vwCl [(h0, .inr (1, [.ref a1, .ref a2, .ref a3, .ref a4, .ref a5, .int (bI of), .int (bI mk), .int (nI la), .int (lfI lf), .int (nI sh)])), (a1, .inl (k1, 384, .inl gw)), (a2, .inl (k2, 384, .inl gd)), (a3, .inl (k3, 384, .inl gl)), (a4, .inl (k4, 24, .inl (fun j => bI (dz j)))), (a5, .inl (k5, 24, .inl (fun j => bI (lg j))))] s.heap := hP
      have hD : va_D A [(h0, .inr (1, [.ref a1, .ref a2, .ref a3, .ref a4, .ref a5, .int (bI of), .int (bI mk), .int (nI la), .int (lfI lf), .int (nI sh)])), (a1, .inl (k1, 384, .inl gw)), (a2, .inl (k2, 384, .inl gd)), (a3, .inl (k3, 384, .inl gl)), (a4, .inl (k4, 24, .inl (fun j => bI (dz j)))), (a5, .inl (k5, 24, .inl (fun j => bI (lg j))))] := hD
      refine lv_iload_n hx hb dX1_state_0 rfl (lv_at hl 1 rfl) ?_
      refine lv_tableIn (tgt := 28) hx hb dX1_state_1 (by decide) (by decide) rfl (by decide) ?_
      refine lv_aload_n hx hb dX1_state_28 rfl (lv_at hl 0 rfl) ?_
      refine va_get (ci := 1) (v := .int (bI of)) (C := RX1) (T := TX1) (N := 10) hx hb hts (by decide +kernel) hown hK hP 0 rfl rfl 5 (by decide) (hts (.fieldLink RX1 30 "CommitLogModel" "off" "Z") (by decide +kernel)) (fun _ h9 => h9) rfl dX1_state_29 ?_
      refine lv_if_eq (tgt := 39) hx hb dX1_state_32 (by decide) (fun c_1 => ?_) (fun c_1 => ?_)
      · -- T of pc 32
        refine lv_iconst (v := 1) hx hb dX1_state_39 (by decide) ?_
        exact hret _ _ _ _ _ hP hD hS (by first | rfl | exact dz_0 (by assumption) | exact dz_1 (by assumption) | exact bn_0 (by assumption) | exact bn_1 (by assumption)) dX1_state_40
      · -- F of pc 32
        refine lv_iconst (v := 0) hx hb dX1_state_35 (by decide) ?_
        refine lv_goto (tgt := 40) hx hb dX1_state_36 (by decide) ?_
        exact hret _ _ _ _ _ hP hD hS (by first | rfl | exact dz_0 (by assumption) | exact dz_1 (by assumption) | exact bn_0 (by assumption) | exact bn_1 (by assumption)) dX1_state_40
    | 1, _, e1 =>
      simp only [mst, e1]
      refine ct_i.of (cc := cX1_state) (maxL := 2) (ty := .int) (by decide) rfl (Nat.le_of_ble_eq_true rfl) rfl ?_
      intro p e s m args below meth c ls A Q hx hb hml hts hown hK hP hD hA hS hl hret
      have hown : s.vm.findClass RX1 = some m.cls := hown
      have hl : lv_has ls 2 [(0, .ref h0), (1, .int (nI 1))] := hl
      have hP : va_P D vwCl [(h0, .inr (1, [.ref a1, .ref a2, .ref a3, .ref a4, .ref a5, .int (bI of), .int (bI mk), .int (nI la), .int (lfI lf), .int (nI sh)])), (a1, .inl (k1, 384, .inl gw)), (a2, .inl (k2, 384, .inl gd)), (a3, .inl (k3, 384, .inl gl)), (a4, .inl (k4, 24, .inl (fun j => bI (dz j)))), (a5, .inl (k5, 24, .inl (fun j => bI (lg j))))] s.heap := hP
      have hD : va_D A [(h0, .inr (1, [.ref a1, .ref a2, .ref a3, .ref a4, .ref a5, .int (bI of), .int (bI mk), .int (nI la), .int (lfI lf), .int (nI sh)])), (a1, .inl (k1, 384, .inl gw)), (a2, .inl (k2, 384, .inl gd)), (a3, .inl (k3, 384, .inl gl)), (a4, .inl (k4, 24, .inl (fun j => bI (dz j)))), (a5, .inl (k5, 24, .inl (fun j => bI (lg j))))] := hD
      refine lv_iload_n hx hb dX1_state_0 rfl (lv_at hl 1 rfl) ?_
      refine lv_tableIn (tgt := 41) hx hb dX1_state_1 (by decide) (by decide) rfl (by decide) ?_
      refine lv_aload_n hx hb dX1_state_41 rfl (lv_at hl 0 rfl) ?_
      refine va_get (ci := 1) (v := .int (bI mk)) (C := RX1) (T := TX1) (N := 10) hx hb hts (by decide +kernel) hown hK hP 0 rfl rfl 6 (by decide) (hts (.fieldLink RX1 42 "CommitLogModel" "mark" "Z") (by decide +kernel)) (fun _ h9 => h9) rfl dX1_state_42 ?_
      refine lv_if_eq (tgt := 52) hx hb dX1_state_45 (by decide) (fun c_1 => ?_) (fun c_1 => ?_)
      · -- T of pc 45
        refine lv_iconst (v := 0) hx hb dX1_state_52 (by decide) ?_
        exact hret _ _ _ _ _ hP hD hS (by first | rfl | exact dz_0 (by assumption) | exact dz_1 (by assumption) | exact bn_0 (by assumption) | exact bn_1 (by assumption)) dX1_state_53
      · -- F of pc 45
        refine lv_iconst (v := 1) hx hb dX1_state_48 (by decide) ?_
        refine lv_goto (tgt := 53) hx hb dX1_state_49 (by decide) ?_
        exact hret _ _ _ _ _ hP hD hS (by first | rfl | exact dz_0 (by assumption) | exact dz_1 (by assumption) | exact bn_0 (by assumption) | exact bn_1 (by assumption)) dX1_state_53
    | 2, _, e1 =>
      simp only [mst, e1]
      refine ct_i.of (cc := cX1_state) (maxL := 2) (ty := .int) (by decide) rfl (Nat.le_of_ble_eq_true rfl) rfl ?_
      intro p e s m args below meth c ls A Q hx hb hml hts hown hK hP hD hA hS hl hret
      have hown : s.vm.findClass RX1 = some m.cls := hown
      have hl : lv_has ls 2 [(0, .ref h0), (1, .int (nI 2))] := hl
      have hP : va_P D vwCl [(h0, .inr (1, [.ref a1, .ref a2, .ref a3, .ref a4, .ref a5, .int (bI of), .int (bI mk), .int (nI la), .int (lfI lf), .int (nI sh)])), (a1, .inl (k1, 384, .inl gw)), (a2, .inl (k2, 384, .inl gd)), (a3, .inl (k3, 384, .inl gl)), (a4, .inl (k4, 24, .inl (fun j => bI (dz j)))), (a5, .inl (k5, 24, .inl (fun j => bI (lg j))))] s.heap := hP
      have hD : va_D A [(h0, .inr (1, [.ref a1, .ref a2, .ref a3, .ref a4, .ref a5, .int (bI of), .int (bI mk), .int (nI la), .int (lfI lf), .int (nI sh)])), (a1, .inl (k1, 384, .inl gw)), (a2, .inl (k2, 384, .inl gd)), (a3, .inl (k3, 384, .inl gl)), (a4, .inl (k4, 24, .inl (fun j => bI (dz j)))), (a5, .inl (k5, 24, .inl (fun j => bI (lg j))))] := hD
      refine lv_iload_n hx hb dX1_state_0 rfl (lv_at hl 1 rfl) ?_
      refine lv_tableIn (tgt := 54) hx hb dX1_state_1 (by decide) (by decide) rfl (by decide) ?_
      refine lv_aload_n hx hb dX1_state_54 rfl (lv_at hl 0 rfl) ?_
      refine va_get (ci := 1) (v := .int (nI la)) (C := RX1) (T := TX1) (N := 10) hx hb hts (by decide +kernel) hown hK hP 0 rfl rfl 7 (by decide) (hts (.fieldLink RX1 49 "CommitLogModel" "latest" "I") (by decide +kernel)) (fun _ h9 => h9) rfl dX1_state_55 ?_
      exact hret _ _ _ _ _ hP hD hS (by first | rfl | exact dz_0 (by assumption) | exact dz_1 (by assumption) | exact bn_0 (by assumption) | exact bn_1 (by assumption)) dX1_state_58
end
section
/-! The reference: commit and start. -/
set_option maxHeartbeats 4000000 in
set_option maxRecDepth 100000 in
theorem c1_commit_off (l : Launch) (D : va_G) (h0 a1 a2 a3 a4 a5 : Nat) (k1 k2 k3 k4 k5 : ClassId) (gw gd gl : Nat → Int32) (dz lg : Nat → Bool) (mk : Bool) (la : Nat) (lf : Option Nat) (sh : Nat) : ct_i l yX1_commit wsX1_commit ({ frames := 2, cells := 0, slots := 0, locals := 46 }) D vwCl (MT k1 k2 k3 k4 k5) [.ref h0] (MW h0 a1 a2 a3 a4 a5 k1 k2 k3 k4 k5 gw gd gl dz lg true mk la lf sh) (MW h0 a1 a2 a3 a4 a5 k1 k2 k3 k4 k5 gw gd gl dz lg true mk la lf sh) (bI false) := by
  refine ct_i.of (cc := cX1_commit) (maxL := 3) (ty := .boolean) (by decide) rfl (Nat.le_of_ble_eq_true rfl) (nb_bI _) ?_
  intro p e s m args below meth c ls A Q hx hb hml hts hown hK hP hD hA hS hl hret
  have hown : s.vm.findClass RX1 = some m.cls := hown
  have hl : lv_has ls 3 [(0, .ref h0)] := hl
  have hP : va_P D vwCl [(h0, .inr (1, [.ref a1, .ref a2, .ref a3, .ref a4, .ref a5, .int 1, .int (bI mk), .int (nI la), .int (lfI lf), .int (nI sh)])), (a1, .inl (k1, 384, .inl gw)), (a2, .inl (k2, 384, .inl gd)), (a3, .inl (k3, 384, .inl gl)), (a4, .inl (k4, 24, .inl (fun j => bI (dz j)))), (a5, .inl (k5, 24, .inl (fun j => bI (lg j))))] s.heap := hP
  have hD : va_D A [(h0, .inr (1, [.ref a1, .ref a2, .ref a3, .ref a4, .ref a5, .int 1, .int (bI mk), .int (nI la), .int (lfI lf), .int (nI sh)])), (a1, .inl (k1, 384, .inl gw)), (a2, .inl (k2, 384, .inl gd)), (a3, .inl (k3, 384, .inl gl)), (a4, .inl (k4, 24, .inl (fun j => bI (dz j)))), (a5, .inl (k5, 24, .inl (fun j => bI (lg j))))] := hD
  refine lv_aload_n hx hb dX1_commit_0 rfl (lv_at hl 0 rfl) ?_
  refine va_get (ci := 1) (v := .int 1) (C := RX1) (T := TX1) (N := 10) hx hb hts (by decide +kernel) hown hK hP 0 rfl rfl 5 (by decide) (hts (.fieldLink RX1 30 "CommitLogModel" "off" "Z") (by decide +kernel)) (fun _ h9 => h9) rfl dX1_commit_1 ?_
  refine lv_if_eq (tgt := 9) hx hb dX1_commit_4 (by decide) (fun c_1 => ?_) (fun c_1 => ?_)
  · -- T of pc 4
    exact absurd c_1 (by decide)
  · -- F of pc 4
    refine lv_iconst (v := 0) hx hb dX1_commit_7 (by decide) ?_
    exact hret _ _ _ _ _ hP hD hS rfl dX1_commit_8
set_option maxHeartbeats 4000000 in
set_option maxRecDepth 100000 in
theorem c1_commit_go (l : Launch) (D : va_G) (h0 a1 a2 a3 a4 a5 : Nat) (k1 k2 k3 k4 k5 : ClassId) (gw gd gl : Nat → Int32) (dz lg : Nat → Bool) (mk : Bool) (la : Nat) (lf : Option Nat) (sh : Nat) (hlf : lf ≠ some 1) (hl1 : ∀ j, lf = some j → j ≤ 1000) (hsh : sh < 1000) : ct_i l yX1_commit wsX1_commit ({ frames := 2, cells := 0, slots := 0, locals := 46 }) D vwCl (MT k1 k2 k3 k4 k5) [.ref h0] (MW h0 a1 a2 a3 a4 a5 k1 k2 k3 k4 k5 gw gd gl dz lg false mk la lf sh) (MW h0 a1 a2 a3 a4 a5 k1 k2 k3 k4 k5 gw (lyK (ntK gw dz gl 24) (lgK dz lg 24) (cnt dz 24) gd 24) (ntK gw dz gl 24) (clr dz 24) (lgK dz lg 24) false false (cnt dz 24) (lfD lf) sh) (bI true) := by
  have hc := cnt_le dz 24
  have hm2 : (cnt dz 24) * (sh - 500) ≤ 24 * 1000 := sh_mul hc (by omega)
  match lf, hlf with
  | none, _ =>
    simp only [lfD]
    refine ct_i.of (cc := cX1_commit) (maxL := 3) (ty := .boolean) (by decide) rfl (Nat.le_of_ble_eq_true rfl) (nb_bI _) ?_
    intro p e s m args below meth c ls A Q hx hb hml hts hown hK hP hD hA hS hl hret
    have hown : s.vm.findClass RX1 = some m.cls := hown
    have hl : lv_has ls 3 [(0, .ref h0)] := hl
    have hP : va_P D vwCl [(h0, .inr (1, [.ref a1, .ref a2, .ref a3, .ref a4, .ref a5, .int 0, .int (bI mk), .int (nI la), .int (lfI none), .int (nI sh)])), (a1, .inl (k1, 384, .inl gw)), (a2, .inl (k2, 384, .inl gd)), (a3, .inl (k3, 384, .inl gl)), (a4, .inl (k4, 24, .inl (fun j => bI (dz j)))), (a5, .inl (k5, 24, .inl (fun j => bI (lg j))))] s.heap := hP
    have hD : va_D A [(h0, .inr (1, [.ref a1, .ref a2, .ref a3, .ref a4, .ref a5, .int 0, .int (bI mk), .int (nI la), .int (lfI none), .int (nI sh)])), (a1, .inl (k1, 384, .inl gw)), (a2, .inl (k2, 384, .inl gd)), (a3, .inl (k3, 384, .inl gl)), (a4, .inl (k4, 24, .inl (fun j => bI (dz j)))), (a5, .inl (k5, 24, .inl (fun j => bI (lg j))))] := hD
    refine lv_aload_n hx hb dX1_commit_0 rfl (lv_at hl 0 rfl) ?_
    refine va_get (ci := 1) (v := .int 0) (C := RX1) (T := TX1) (N := 10) hx hb hts (by decide +kernel) hown hK hP 0 rfl rfl 5 (by decide) (hts (.fieldLink RX1 30 "CommitLogModel" "off" "Z") (by decide +kernel)) (fun _ h9 => h9) rfl dX1_commit_1 ?_
    refine lv_if_eq (tgt := 9) hx hb dX1_commit_4 (by decide) (fun c_1 => ?_) (fun c_1 => ?_)
    · -- T of pc 4
      refine lv_aload_n hx hb dX1_commit_9 rfl (lv_at hl 0 rfl) ?_
      refine ct_Vi (As := []) (rest := []) (wr := []) (wn := [(h0, .inr (1, [.ref a1, .ref a2, .ref a3, .ref a4, .ref a5, .int 0, .int (bI mk), .int (nI la), .int (lfI none), .int (nI sh)])), (a1, .inl (k1, 384, .inl gw)), (a2, .inl (k2, 384, .inl gd)), (a3, .inl (k3, 384, .inl gl)), (a4, .inl (k4, 24, .inl (fun j => bI (dz j)))), (a5, .inl (k5, 24, .inl (fun j => bI (lg j))))]) ⟨hx, hb, hml, hown, hts⟩ (c1_many l D h0 a1 a2 a3 a4 a5 k1 k2 k3 k4 k5 gw gd gl dz lg false mk la none sh) (cwV 0 hts gX1_commit_X1_many rfl rfl rfl (by decide +kernel) ⟨Nat.le_of_ble_eq_true rfl, Nat.le_of_ble_eq_true rfl⟩) hK hP hD hS hA [0, 1, 2, 3, 4, 5] [] [0, 1, 2, 3, 4] [0, 1, 2, 3, 4, 5] rfl rfl (by decide) rfl (by decide) (by decide) rfl (by decide) 1 rfl 0 rfl rfl hl.1 rfl (Nat.le_of_ble_eq_true rfl) dX1_commit_10 ⟨Nat.zero_le _, Nat.zero_le _⟩ (fun H locs hP hD hS => ?_)
      refine lv_istore_n (lv' := [(1, .int (nI (cnt dz 24))), (0, .ref h0)]) hx hb dX1_commit_13 rfl hl (by decide) rfl (fun ls hl => ?_)
      refine lv_aload_n hx hb dX1_commit_14 rfl (lv_at hl 1 rfl) ?_
      refine lv_iload_n hx hb dX1_commit_15 rfl (lv_at hl 0 rfl) ?_
      refine va_put (ci := 1) (v := .int (nI (cnt dz 24))) (ty := .int) (C := RX1) (T := TX1) (N := 10) hx hb hts (by decide +kernel) tyX1 tyX1_ok nmX1 hown hK hP hD hS 0 rfl rfl 7 (by decide) (hts (.fieldLink RX1 49 "CommitLogModel" "latest" "I") (by decide +kernel)) (fun _ h9 => h9) rfl (by decide +kernel) rfl rfl (Nat.le_of_ble_eq_true rfl) dX1_commit_16 (fun H locs hP hD hS => ?_)
      have hP : va_P D vwCl [(h0, .inr (1, [.ref a1, .ref a2, .ref a3, .ref a4, .ref a5, .int 0, .int (bI mk), .int (nI (cnt dz 24)), .int (lfI none), .int (nI sh)])), (a1, .inl (k1, 384, .inl gw)), (a2, .inl (k2, 384, .inl gd)), (a3, .inl (k3, 384, .inl gl)), (a4, .inl (k4, 24, .inl (fun j => bI (dz j)))), (a5, .inl (k5, 24, .inl (fun j => bI (lg j))))] H := hP
      have hD : va_D _ [(h0, .inr (1, [.ref a1, .ref a2, .ref a3, .ref a4, .ref a5, .int 0, .int (bI mk), .int (nI (cnt dz 24)), .int (lfI none), .int (nI sh)])), (a1, .inl (k1, 384, .inl gw)), (a2, .inl (k2, 384, .inl gd)), (a3, .inl (k3, 384, .inl gl)), (a4, .inl (k4, 24, .inl (fun j => bI (dz j)))), (a5, .inl (k5, 24, .inl (fun j => bI (lg j))))] := hD
      refine lv_aload_n hx hb dX1_commit_19 rfl (lv_at hl 1 rfl) ?_
      refine lv_aload_n hx hb dX1_commit_20 rfl (lv_at hl 1 rfl) ?_
      refine va_get (ci := 1) (v := .int (lfI none)) (C := RX1) (T := TX1) (N := 10) hx hb hts (by decide +kernel) hown hK hP 0 rfl rfl 8 (by decide) (hts (.fieldLink RX1 53 "CommitLogModel" "left" "I") (by decide +kernel)) (fun _ h9 => h9) rfl dX1_commit_21 ?_
      refine lv_if_le (tgt := 36) hx hb dX1_commit_24 (by decide) (fun c_2 => ?_) (fun c_2 => ?_)
      · -- T of pc 24
        refine lv_iconst (v := (-1)) hx hb dX1_commit_36 (by decide) ?_
        refine tp_as (z := lfI none) rfl ?_
        refine va_put (ci := 1) (v := .int (lfI none)) (ty := .int) (C := RX1) (T := TX1) (N := 10) hx hb hts (by decide +kernel) tyX1 tyX1_ok nmX1 hown hK hP hD hS 0 rfl rfl 8 (by decide) (hts (.fieldLink RX1 53 "CommitLogModel" "left" "I") (by decide +kernel)) (fun _ h9 => h9) rfl (by decide +kernel) rfl rfl (Nat.le_of_ble_eq_true rfl) dX1_commit_37 (fun H locs hP hD hS => ?_)
        have hP : va_P D vwCl [(h0, .inr (1, [.ref a1, .ref a2, .ref a3, .ref a4, .ref a5, .int 0, .int (bI mk), .int (nI (cnt dz 24)), .int (lfI none), .int (nI sh)])), (a1, .inl (k1, 384, .inl gw)), (a2, .inl (k2, 384, .inl gd)), (a3, .inl (k3, 384, .inl gl)), (a4, .inl (k4, 24, .inl (fun j => bI (dz j)))), (a5, .inl (k5, 24, .inl (fun j => bI (lg j))))] H := hP
        have hD : va_D _ [(h0, .inr (1, [.ref a1, .ref a2, .ref a3, .ref a4, .ref a5, .int 0, .int (bI mk), .int (nI (cnt dz 24)), .int (lfI none), .int (nI sh)])), (a1, .inl (k1, 384, .inl gw)), (a2, .inl (k2, 384, .inl gd)), (a3, .inl (k3, 384, .inl gl)), (a4, .inl (k4, 24, .inl (fun j => bI (dz j)))), (a5, .inl (k5, 24, .inl (fun j => bI (lg j))))] := hD
        refine lv_aload_n hx hb dX1_commit_40 rfl (lv_at hl 1 rfl) ?_
        refine lv_aload_n hx hb dX1_commit_41 rfl (lv_at hl 1 rfl) ?_
        refine va_get (ci := 1) (v := .int (lfI none)) (C := RX1) (T := TX1) (N := 10) hx hb hts (by decide +kernel) hown hK hP 0 rfl rfl 8 (by decide) (hts (.fieldLink RX1 53 "CommitLogModel" "left" "I") (by decide +kernel)) (fun _ h9 => h9) rfl dX1_commit_42 ?_
        refine lv_if_ne (tgt := 52) hx hb dX1_commit_45 (by decide) (fun c_3 => ?_) (fun c_3 => ?_)
        · -- T of pc 45
          refine lv_iconst (v := 0) hx hb dX1_commit_52 (by decide) ?_
          refine va_put (ci := 1) (v := .int 0) (ty := .boolean) (C := RX1) (T := TX1) (N := 10) hx hb hts (by decide +kernel) tyX1 tyX1_ok nmX1 hown hK hP hD hS 0 rfl rfl 5 (by decide) (hts (.fieldLink RX1 30 "CommitLogModel" "off" "Z") (by decide +kernel)) (fun _ h9 => h9) rfl (by decide +kernel) rfl rfl (Nat.le_of_ble_eq_true rfl) dX1_commit_53 (fun H locs hP hD hS => ?_)
          have hP : va_P D vwCl [(h0, .inr (1, [.ref a1, .ref a2, .ref a3, .ref a4, .ref a5, .int 0, .int (bI mk), .int (nI (cnt dz 24)), .int (lfI none), .int (nI sh)])), (a1, .inl (k1, 384, .inl gw)), (a2, .inl (k2, 384, .inl gd)), (a3, .inl (k3, 384, .inl gl)), (a4, .inl (k4, 24, .inl (fun j => bI (dz j)))), (a5, .inl (k5, 24, .inl (fun j => bI (lg j))))] H := hP
          have hD : va_D _ [(h0, .inr (1, [.ref a1, .ref a2, .ref a3, .ref a4, .ref a5, .int 0, .int (bI mk), .int (nI (cnt dz 24)), .int (lfI none), .int (nI sh)])), (a1, .inl (k1, 384, .inl gw)), (a2, .inl (k2, 384, .inl gd)), (a3, .inl (k3, 384, .inl gl)), (a4, .inl (k4, 24, .inl (fun j => bI (dz j)))), (a5, .inl (k5, 24, .inl (fun j => bI (lg j))))] := hD
          refine lv_aload_n hx hb dX1_commit_56 rfl (lv_at hl 1 rfl) ?_
          refine va_get (ci := 1) (v := .int 0) (C := RX1) (T := TX1) (N := 10) hx hb hts (by decide +kernel) hown hK hP 0 rfl rfl 5 (by decide) (hts (.fieldLink RX1 30 "CommitLogModel" "off" "Z") (by decide +kernel)) (fun _ h9 => h9) rfl dX1_commit_57 ?_
          refine lv_if_eq (tgt := 75) hx hb dX1_commit_60 (by decide) (fun c_4 => ?_) (fun c_4 => ?_)
          · -- T of pc 60
            refine lv_aload_n hx hb dX1_commit_75 rfl (lv_at hl 1 rfl) ?_
            refine ct_Vv (As := []) (rest := []) (wr := []) (wn := [(h0, .inr (1, [.ref a1, .ref a2, .ref a3, .ref a4, .ref a5, .int 0, .int 1, .int (nI (cnt dz 24)), .int (lfI none), .int (nI sh)])), (a1, .inl (k1, 384, .inl gw)), (a2, .inl (k2, 384, .inl gd)), (a3, .inl (k3, 384, .inl (ntK gw dz gl 24))), (a4, .inl (k4, 24, .inl (fun j => bI (dz j)))), (a5, .inl (k5, 24, .inl (fun j => bI ((lgK dz lg 24) j))))]) ⟨hx, hb, hml, hown, hts⟩ (c1_note l D h0 a1 a2 a3 a4 a5 k1 k2 k3 k4 k5 gw gd gl dz lg false mk (cnt dz 24) none sh) (cwV 0 hts gX1_commit_X1_note rfl rfl rfl (by decide +kernel) ⟨Nat.le_of_ble_eq_true rfl, Nat.le_of_ble_eq_true rfl⟩) hK hP hD hS hA [0, 1, 2, 3, 4, 5] [] [0, 1, 2, 3, 4] [0, 1, 2, 3, 4, 5] rfl rfl (by decide) rfl (by decide) (by decide) rfl (by decide) 1 rfl 0 rfl rfl hl.1 rfl (Nat.le_of_ble_eq_true rfl) dX1_commit_76 ⟨Nat.zero_le _, Nat.zero_le _⟩ (fun H locs hP hD hS => ?_)
            refine lv_aload_n hx hb dX1_commit_79 rfl (lv_at hl 1 rfl) ?_
            refine lv_aload_n hx hb dX1_commit_80 rfl (lv_at hl 1 rfl) ?_
            refine va_get (ci := 1) (v := .int 0) (C := RX1) (T := TX1) (N := 10) hx hb hts (by decide +kernel) hown hK hP 0 rfl rfl 5 (by decide) (hts (.fieldLink RX1 30 "CommitLogModel" "off" "Z") (by decide +kernel)) (fun _ h9 => h9) rfl dX1_commit_81 ?_
            refine lv_if_eq (tgt := 104) hx hb dX1_commit_84 (by decide) (fun c_5 => ?_) (fun c_5 => ?_)
            · -- T of pc 84
              refine lv_iload_n hx hb dX1_commit_104 rfl (lv_at hl 0 rfl) ?_
              refine ct_Vv (As := [.int (nI (cnt dz 24))]) (rest := []) (wr := []) (wn := [(h0, .inr (1, [.ref a1, .ref a2, .ref a3, .ref a4, .ref a5, .int 0, .int 1, .int (nI (cnt dz 24)), .int (lfI none), .int (nI sh)])), (a1, .inl (k1, 384, .inl gw)), (a2, .inl (k2, 384, .inl (lyK (ntK gw dz gl 24) (lgK dz lg 24) (cnt dz 24) gd 24))), (a3, .inl (k3, 384, .inl (ntK gw dz gl 24))), (a4, .inl (k4, 24, .inl (fun j => bI (dz j)))), (a5, .inl (k5, 24, .inl (fun j => bI ((lgK dz lg 24) j))))]) ⟨hx, hb, hml, hown, hts⟩ (c1_lay l D h0 a1 a2 a3 a4 a5 k1 k2 k3 k4 k5 gw gd (ntK gw dz gl 24) dz (lgK dz lg 24) false true (cnt dz 24) none sh (cnt dz 24) hc) (cwV 1 hts gX1_commit_X1_lay rfl rfl rfl (by decide +kernel) ⟨Nat.le_of_ble_eq_true rfl, Nat.le_of_ble_eq_true rfl⟩) hK hP hD hS hA [0, 1, 2, 3, 4, 5] [] [0, 1, 2, 3, 4] [0, 1, 2, 3, 4, 5] rfl rfl (by decide) rfl (by decide) (by decide) rfl (by decide) 1 rfl 0 rfl rfl hl.1 rfl (Nat.le_of_ble_eq_true rfl) dX1_commit_105 ⟨Nat.zero_le _, Nat.zero_le _⟩ (fun H locs hP hD hS => ?_)
              refine lv_aload_n hx hb dX1_commit_108 rfl (lv_at hl 1 rfl) ?_
              refine lv_aload_n hx hb dX1_commit_109 rfl (lv_at hl 1 rfl) ?_
              refine va_get (ci := 1) (v := .int 0) (C := RX1) (T := TX1) (N := 10) hx hb hts (by decide +kernel) hown hK hP 0 rfl rfl 5 (by decide) (hts (.fieldLink RX1 30 "CommitLogModel" "off" "Z") (by decide +kernel)) (fun _ h9 => h9) rfl dX1_commit_110 ?_
              refine va_put (ci := 1) (v := .int 0) (ty := .boolean) (C := RX1) (T := TX1) (N := 10) hx hb hts (by decide +kernel) tyX1 tyX1_ok nmX1 hown hK hP hD hS 0 rfl rfl 6 (by decide) (hts (.fieldLink RX1 42 "CommitLogModel" "mark" "Z") (by decide +kernel)) (fun _ h9 => h9) rfl (by decide +kernel) rfl rfl (Nat.le_of_ble_eq_true rfl) dX1_commit_113 (fun H locs hP hD hS => ?_)
              have hP : va_P D vwCl [(h0, .inr (1, [.ref a1, .ref a2, .ref a3, .ref a4, .ref a5, .int 0, .int 0, .int (nI (cnt dz 24)), .int (lfI none), .int (nI sh)])), (a1, .inl (k1, 384, .inl gw)), (a2, .inl (k2, 384, .inl (lyK (ntK gw dz gl 24) (lgK dz lg 24) (cnt dz 24) gd 24))), (a3, .inl (k3, 384, .inl (ntK gw dz gl 24))), (a4, .inl (k4, 24, .inl (fun j => bI (dz j)))), (a5, .inl (k5, 24, .inl (fun j => bI ((lgK dz lg 24) j))))] H := hP
              have hD : va_D _ [(h0, .inr (1, [.ref a1, .ref a2, .ref a3, .ref a4, .ref a5, .int 0, .int 0, .int (nI (cnt dz 24)), .int (lfI none), .int (nI sh)])), (a1, .inl (k1, 384, .inl gw)), (a2, .inl (k2, 384, .inl (lyK (ntK gw dz gl 24) (lgK dz lg 24) (cnt dz 24) gd 24))), (a3, .inl (k3, 384, .inl (ntK gw dz gl 24))), (a4, .inl (k4, 24, .inl (fun j => bI (dz j)))), (a5, .inl (k5, 24, .inl (fun j => bI ((lgK dz lg 24) j))))] := hD
              refine lv_iconst (v := 0) hx hb dX1_commit_116 (by decide) ?_
              refine lv_istore_n (lv' := [(2, .int 0), (1, .int (nI (cnt dz 24))), (0, .ref h0)]) hx hb dX1_commit_117 rfl hl (by decide) rfl (fun ls hl => ?_)
              have loop : ∀ (n k : Nat), k + n = 24 → ∀ (ls : Array Slot) (H : Heap) (locs : List Loc), lv_has ls 3 [(2, .int (nI k)), (1, .int (nI (cnt dz 24))), (0, .ref h0)] → va_P D vwCl [(h0, .inr (1, [.ref a1, .ref a2, .ref a3, .ref a4, .ref a5, .int 0, .int 0, .int (nI (cnt dz 24)), .int (lfI none), .int (nI sh)])), (a1, .inl (k1, 384, .inl gw)), (a2, .inl (k2, 384, .inl (lyK (ntK gw dz gl 24) (lgK dz lg 24) (cnt dz 24) gd 24))), (a3, .inl (k3, 384, .inl (ntK gw dz gl 24))), (a4, .inl (k4, 24, .inl (fun j => bI (clr dz k j)))), (a5, .inl (k5, 24, .inl (fun j => bI ((lgK dz lg 24) j))))] H → va_D A [(h0, .inr (1, [.ref a1, .ref a2, .ref a3, .ref a4, .ref a5, .int 0, .int 0, .int (nI (cnt dz 24)), .int (lfI none), .int (nI sh)])), (a1, .inl (k1, 384, .inl gw)), (a2, .inl (k2, 384, .inl (lyK (ntK gw dz gl 24) (lgK dz lg 24) (cnt dz 24) gd 24))), (a3, .inl (k3, 384, .inl (ntK gw dz gl 24))), (a4, .inl (k4, 24, .inl (fun j => bI (clr dz k j)))), (a5, .inl (k5, 24, .inl (fun j => bI ((lgK dz lg 24) j))))] → va_S A s.heap H locs → W p l e ({ frames := 2, cells := 0, slots := 0, locals := 46 }) s m args below meth c H locs 0 0 Q (F0 m 118 ls []) := by
                intro n
                induction n with
                | zero =>
                  intro k hk ls H locs hl hP hD hS
                  obtain rfl : k = 24 := by omega
                  refine lv_iload_n hx hb dX1_commit_118 rfl (lv_at hl 0 rfl) ?_
                  refine lv_bipush (v := 24) hx hb dX1_commit_119 (by decide) ?_
                  refine lv_icmp_ge (tgt := 137) hx hb dX1_commit_121 (by decide) (fun c_6 => ?_) (fun c_6 => ?_)
                  · -- T of pc 121
                    refine lv_aload_n hx hb dX1_commit_137 rfl (lv_at hl 2 rfl) ?_
                    refine va_get (ci := 1) (v := .int 0) (C := RX1) (T := TX1) (N := 10) hx hb hts (by decide +kernel) hown hK hP 0 rfl rfl 5 (by decide) (hts (.fieldLink RX1 30 "CommitLogModel" "off" "Z") (by decide +kernel)) (fun _ h9 => h9) rfl dX1_commit_138 ?_
                    refine lv_if_ne (tgt := 148) hx hb dX1_commit_141 (by decide) (fun c_7 => ?_) (fun c_7 => ?_)
                    · -- T of pc 141
                      exact absurd (by decide) c_7
                    · -- F of pc 141
                      refine lv_iconst (v := 1) hx hb dX1_commit_144 (by decide) ?_
                      refine lv_goto (tgt := 149) hx hb dX1_commit_145 (by decide) ?_
                      exact hret _ _ _ _ _ hP hD hS rfl dX1_commit_149
                  · -- F of pc 121
                    exact absurd (by decide) c_6
                | succ n ih =>
                  intro k hk ls H locs hl hP hD hS
                  refine lv_iload_n hx hb dX1_commit_118 rfl (lv_at hl 0 rfl) ?_
                  refine lv_bipush (v := 24) hx hb dX1_commit_119 (by decide) ?_
                  refine lv_icmp_ge (tgt := 137) hx hb dX1_commit_121 (by decide) (fun c_8 => ?_) (fun c_8 => ?_)
                  · -- T of pc 121
                    exact absurd c_8 (show ¬ nI 24 ≤ nI k from nI_ge (by omega) (by decide))
                  · -- F of pc 121
                    refine lv_aload_n hx hb dX1_commit_124 rfl (lv_at hl 2 rfl) ?_
                    refine va_get (ci := 1) (v := .ref a4) (C := RX1) (T := TX1) (N := 10) hx hb hts (by decide +kernel) hown hK hP 0 rfl rfl 3 (by decide) (hts (.fieldLink RX1 19 "CommitLogModel" "dirty" "[Z") (by decide +kernel)) (fun _ h9 => h9) rfl dX1_commit_125 ?_
                    refine lv_iload_n hx hb dX1_commit_128 rfl (lv_at hl 0 rfl) ?_
                    refine lv_iconst (v := 0) hx hb dX1_commit_129 (by decide) ?_
                    refine va_zast hx hb hK hP hD hS 4 3 rfl rfl (vp_in_nI (by omega) (by decide)) dX1_commit_130 (fun H locs hP hD hS => ?_)
                    rw [cl_nI (show k < 2 ^ 31 by omega), show vp_nar .boolean 0 = bI false from rfl, up_bI, clr_s] at hP hD
                    have hP : va_P D vwCl [(h0, .inr (1, [.ref a1, .ref a2, .ref a3, .ref a4, .ref a5, .int 0, .int 0, .int (nI (cnt dz 24)), .int (lfI none), .int (nI sh)])), (a1, .inl (k1, 384, .inl gw)), (a2, .inl (k2, 384, .inl (lyK (ntK gw dz gl 24) (lgK dz lg 24) (cnt dz 24) gd 24))), (a3, .inl (k3, 384, .inl (ntK gw dz gl 24))), (a4, .inl (k4, 24, .inl (fun j => bI (clr dz (k + 1) j)))), (a5, .inl (k5, 24, .inl (fun j => bI ((lgK dz lg 24) j))))] H := hP
                    have hD : va_D _ [(h0, .inr (1, [.ref a1, .ref a2, .ref a3, .ref a4, .ref a5, .int 0, .int 0, .int (nI (cnt dz 24)), .int (lfI none), .int (nI sh)])), (a1, .inl (k1, 384, .inl gw)), (a2, .inl (k2, 384, .inl (lyK (ntK gw dz gl 24) (lgK dz lg 24) (cnt dz 24) gd 24))), (a3, .inl (k3, 384, .inl (ntK gw dz gl 24))), (a4, .inl (k4, 24, .inl (fun j => bI (clr dz (k + 1) j)))), (a5, .inl (k5, 24, .inl (fun j => bI ((lgK dz lg 24) j))))] := hD
                    refine lv_iinc (v := (nI (k + 1))) (lv' := [(2, .int (nI (k + 1))), (1, .int (nI (cnt dz 24))), (0, .ref h0)]) hx hb dX1_commit_131 hl (k := 0) rfl (nI_1 _) (by decide) rfl (fun ls hl => ?_)
                    refine lv_goto (tgt := 118) hx hb dX1_commit_134 (by decide) ?_
                    exact ih (k + 1) (by omega) ls H locs (lv_sub hl [0, 1, 2] rfl) hP hD hS
              exact loop 24 0 rfl ls _ _ (lv_sub hl [0, 1, 2] rfl) (by rw [clr_0]; exact hP) (by rw [clr_0]; exact hD) hS
            · -- F of pc 84
              exact absurd (by decide) c_5
          · -- F of pc 60
            exact absurd (by decide) c_4
        · -- F of pc 45
          exact absurd c_3 (by decide)
      · -- F of pc 24
        exact absurd (by decide) c_2
    · -- F of pc 4
      exact absurd (by decide) c_1
  | some 0, _ =>
    simp only [lfD]
    refine ct_i.of (cc := cX1_commit) (maxL := 3) (ty := .boolean) (by decide) rfl (Nat.le_of_ble_eq_true rfl) (nb_bI _) ?_
    intro p e s m args below meth c ls A Q hx hb hml hts hown hK hP hD hA hS hl hret
    have hown : s.vm.findClass RX1 = some m.cls := hown
    have hl : lv_has ls 3 [(0, .ref h0)] := hl
    have hP : va_P D vwCl [(h0, .inr (1, [.ref a1, .ref a2, .ref a3, .ref a4, .ref a5, .int 0, .int (bI mk), .int (nI la), .int (lfI (some 0)), .int (nI sh)])), (a1, .inl (k1, 384, .inl gw)), (a2, .inl (k2, 384, .inl gd)), (a3, .inl (k3, 384, .inl gl)), (a4, .inl (k4, 24, .inl (fun j => bI (dz j)))), (a5, .inl (k5, 24, .inl (fun j => bI (lg j))))] s.heap := hP
    have hD : va_D A [(h0, .inr (1, [.ref a1, .ref a2, .ref a3, .ref a4, .ref a5, .int 0, .int (bI mk), .int (nI la), .int (lfI (some 0)), .int (nI sh)])), (a1, .inl (k1, 384, .inl gw)), (a2, .inl (k2, 384, .inl gd)), (a3, .inl (k3, 384, .inl gl)), (a4, .inl (k4, 24, .inl (fun j => bI (dz j)))), (a5, .inl (k5, 24, .inl (fun j => bI (lg j))))] := hD
    refine lv_aload_n hx hb dX1_commit_0 rfl (lv_at hl 0 rfl) ?_
    refine va_get (ci := 1) (v := .int 0) (C := RX1) (T := TX1) (N := 10) hx hb hts (by decide +kernel) hown hK hP 0 rfl rfl 5 (by decide) (hts (.fieldLink RX1 30 "CommitLogModel" "off" "Z") (by decide +kernel)) (fun _ h9 => h9) rfl dX1_commit_1 ?_
    refine lv_if_eq (tgt := 9) hx hb dX1_commit_4 (by decide) (fun c_1 => ?_) (fun c_1 => ?_)
    · -- T of pc 4
      refine lv_aload_n hx hb dX1_commit_9 rfl (lv_at hl 0 rfl) ?_
      refine ct_Vi (As := []) (rest := []) (wr := []) (wn := [(h0, .inr (1, [.ref a1, .ref a2, .ref a3, .ref a4, .ref a5, .int 0, .int (bI mk), .int (nI la), .int (lfI (some 0)), .int (nI sh)])), (a1, .inl (k1, 384, .inl gw)), (a2, .inl (k2, 384, .inl gd)), (a3, .inl (k3, 384, .inl gl)), (a4, .inl (k4, 24, .inl (fun j => bI (dz j)))), (a5, .inl (k5, 24, .inl (fun j => bI (lg j))))]) ⟨hx, hb, hml, hown, hts⟩ (c1_many l D h0 a1 a2 a3 a4 a5 k1 k2 k3 k4 k5 gw gd gl dz lg false mk la (some 0) sh) (cwV 0 hts gX1_commit_X1_many rfl rfl rfl (by decide +kernel) ⟨Nat.le_of_ble_eq_true rfl, Nat.le_of_ble_eq_true rfl⟩) hK hP hD hS hA [0, 1, 2, 3, 4, 5] [] [0, 1, 2, 3, 4] [0, 1, 2, 3, 4, 5] rfl rfl (by decide) rfl (by decide) (by decide) rfl (by decide) 1 rfl 0 rfl rfl hl.1 rfl (Nat.le_of_ble_eq_true rfl) dX1_commit_10 ⟨Nat.zero_le _, Nat.zero_le _⟩ (fun H locs hP hD hS => ?_)
      refine lv_istore_n (lv' := [(1, .int (nI (cnt dz 24))), (0, .ref h0)]) hx hb dX1_commit_13 rfl hl (by decide) rfl (fun ls hl => ?_)
      refine lv_aload_n hx hb dX1_commit_14 rfl (lv_at hl 1 rfl) ?_
      refine lv_iload_n hx hb dX1_commit_15 rfl (lv_at hl 0 rfl) ?_
      refine va_put (ci := 1) (v := .int (nI (cnt dz 24))) (ty := .int) (C := RX1) (T := TX1) (N := 10) hx hb hts (by decide +kernel) tyX1 tyX1_ok nmX1 hown hK hP hD hS 0 rfl rfl 7 (by decide) (hts (.fieldLink RX1 49 "CommitLogModel" "latest" "I") (by decide +kernel)) (fun _ h9 => h9) rfl (by decide +kernel) rfl rfl (Nat.le_of_ble_eq_true rfl) dX1_commit_16 (fun H locs hP hD hS => ?_)
      have hP : va_P D vwCl [(h0, .inr (1, [.ref a1, .ref a2, .ref a3, .ref a4, .ref a5, .int 0, .int (bI mk), .int (nI (cnt dz 24)), .int (lfI (some 0)), .int (nI sh)])), (a1, .inl (k1, 384, .inl gw)), (a2, .inl (k2, 384, .inl gd)), (a3, .inl (k3, 384, .inl gl)), (a4, .inl (k4, 24, .inl (fun j => bI (dz j)))), (a5, .inl (k5, 24, .inl (fun j => bI (lg j))))] H := hP
      have hD : va_D _ [(h0, .inr (1, [.ref a1, .ref a2, .ref a3, .ref a4, .ref a5, .int 0, .int (bI mk), .int (nI (cnt dz 24)), .int (lfI (some 0)), .int (nI sh)])), (a1, .inl (k1, 384, .inl gw)), (a2, .inl (k2, 384, .inl gd)), (a3, .inl (k3, 384, .inl gl)), (a4, .inl (k4, 24, .inl (fun j => bI (dz j)))), (a5, .inl (k5, 24, .inl (fun j => bI (lg j))))] := hD
      refine lv_aload_n hx hb dX1_commit_19 rfl (lv_at hl 1 rfl) ?_
      refine lv_aload_n hx hb dX1_commit_20 rfl (lv_at hl 1 rfl) ?_
      refine va_get (ci := 1) (v := .int (lfI (some 0))) (C := RX1) (T := TX1) (N := 10) hx hb hts (by decide +kernel) hown hK hP 0 rfl rfl 8 (by decide) (hts (.fieldLink RX1 53 "CommitLogModel" "left" "I") (by decide +kernel)) (fun _ h9 => h9) rfl dX1_commit_21 ?_
      refine lv_if_le (tgt := 36) hx hb dX1_commit_24 (by decide) (fun c_2 => ?_) (fun c_2 => ?_)
      · -- T of pc 24
        refine lv_iconst (v := (-1)) hx hb dX1_commit_36 (by decide) ?_
        refine tp_as (z := lfI none) rfl ?_
        refine va_put (ci := 1) (v := .int (lfI none)) (ty := .int) (C := RX1) (T := TX1) (N := 10) hx hb hts (by decide +kernel) tyX1 tyX1_ok nmX1 hown hK hP hD hS 0 rfl rfl 8 (by decide) (hts (.fieldLink RX1 53 "CommitLogModel" "left" "I") (by decide +kernel)) (fun _ h9 => h9) rfl (by decide +kernel) rfl rfl (Nat.le_of_ble_eq_true rfl) dX1_commit_37 (fun H locs hP hD hS => ?_)
        have hP : va_P D vwCl [(h0, .inr (1, [.ref a1, .ref a2, .ref a3, .ref a4, .ref a5, .int 0, .int (bI mk), .int (nI (cnt dz 24)), .int (lfI none), .int (nI sh)])), (a1, .inl (k1, 384, .inl gw)), (a2, .inl (k2, 384, .inl gd)), (a3, .inl (k3, 384, .inl gl)), (a4, .inl (k4, 24, .inl (fun j => bI (dz j)))), (a5, .inl (k5, 24, .inl (fun j => bI (lg j))))] H := hP
        have hD : va_D _ [(h0, .inr (1, [.ref a1, .ref a2, .ref a3, .ref a4, .ref a5, .int 0, .int (bI mk), .int (nI (cnt dz 24)), .int (lfI none), .int (nI sh)])), (a1, .inl (k1, 384, .inl gw)), (a2, .inl (k2, 384, .inl gd)), (a3, .inl (k3, 384, .inl gl)), (a4, .inl (k4, 24, .inl (fun j => bI (dz j)))), (a5, .inl (k5, 24, .inl (fun j => bI (lg j))))] := hD
        refine lv_aload_n hx hb dX1_commit_40 rfl (lv_at hl 1 rfl) ?_
        refine lv_aload_n hx hb dX1_commit_41 rfl (lv_at hl 1 rfl) ?_
        refine va_get (ci := 1) (v := .int (lfI none)) (C := RX1) (T := TX1) (N := 10) hx hb hts (by decide +kernel) hown hK hP 0 rfl rfl 8 (by decide) (hts (.fieldLink RX1 53 "CommitLogModel" "left" "I") (by decide +kernel)) (fun _ h9 => h9) rfl dX1_commit_42 ?_
        refine lv_if_ne (tgt := 52) hx hb dX1_commit_45 (by decide) (fun c_3 => ?_) (fun c_3 => ?_)
        · -- T of pc 45
          refine lv_iconst (v := 0) hx hb dX1_commit_52 (by decide) ?_
          refine va_put (ci := 1) (v := .int 0) (ty := .boolean) (C := RX1) (T := TX1) (N := 10) hx hb hts (by decide +kernel) tyX1 tyX1_ok nmX1 hown hK hP hD hS 0 rfl rfl 5 (by decide) (hts (.fieldLink RX1 30 "CommitLogModel" "off" "Z") (by decide +kernel)) (fun _ h9 => h9) rfl (by decide +kernel) rfl rfl (Nat.le_of_ble_eq_true rfl) dX1_commit_53 (fun H locs hP hD hS => ?_)
          have hP : va_P D vwCl [(h0, .inr (1, [.ref a1, .ref a2, .ref a3, .ref a4, .ref a5, .int 0, .int (bI mk), .int (nI (cnt dz 24)), .int (lfI none), .int (nI sh)])), (a1, .inl (k1, 384, .inl gw)), (a2, .inl (k2, 384, .inl gd)), (a3, .inl (k3, 384, .inl gl)), (a4, .inl (k4, 24, .inl (fun j => bI (dz j)))), (a5, .inl (k5, 24, .inl (fun j => bI (lg j))))] H := hP
          have hD : va_D _ [(h0, .inr (1, [.ref a1, .ref a2, .ref a3, .ref a4, .ref a5, .int 0, .int (bI mk), .int (nI (cnt dz 24)), .int (lfI none), .int (nI sh)])), (a1, .inl (k1, 384, .inl gw)), (a2, .inl (k2, 384, .inl gd)), (a3, .inl (k3, 384, .inl gl)), (a4, .inl (k4, 24, .inl (fun j => bI (dz j)))), (a5, .inl (k5, 24, .inl (fun j => bI (lg j))))] := hD
          refine lv_aload_n hx hb dX1_commit_56 rfl (lv_at hl 1 rfl) ?_
          refine va_get (ci := 1) (v := .int 0) (C := RX1) (T := TX1) (N := 10) hx hb hts (by decide +kernel) hown hK hP 0 rfl rfl 5 (by decide) (hts (.fieldLink RX1 30 "CommitLogModel" "off" "Z") (by decide +kernel)) (fun _ h9 => h9) rfl dX1_commit_57 ?_
          refine lv_if_eq (tgt := 75) hx hb dX1_commit_60 (by decide) (fun c_4 => ?_) (fun c_4 => ?_)
          · -- T of pc 60
            refine lv_aload_n hx hb dX1_commit_75 rfl (lv_at hl 1 rfl) ?_
            refine ct_Vv (As := []) (rest := []) (wr := []) (wn := [(h0, .inr (1, [.ref a1, .ref a2, .ref a3, .ref a4, .ref a5, .int 0, .int 1, .int (nI (cnt dz 24)), .int (lfI none), .int (nI sh)])), (a1, .inl (k1, 384, .inl gw)), (a2, .inl (k2, 384, .inl gd)), (a3, .inl (k3, 384, .inl (ntK gw dz gl 24))), (a4, .inl (k4, 24, .inl (fun j => bI (dz j)))), (a5, .inl (k5, 24, .inl (fun j => bI ((lgK dz lg 24) j))))]) ⟨hx, hb, hml, hown, hts⟩ (c1_note l D h0 a1 a2 a3 a4 a5 k1 k2 k3 k4 k5 gw gd gl dz lg false mk (cnt dz 24) none sh) (cwV 0 hts gX1_commit_X1_note rfl rfl rfl (by decide +kernel) ⟨Nat.le_of_ble_eq_true rfl, Nat.le_of_ble_eq_true rfl⟩) hK hP hD hS hA [0, 1, 2, 3, 4, 5] [] [0, 1, 2, 3, 4] [0, 1, 2, 3, 4, 5] rfl rfl (by decide) rfl (by decide) (by decide) rfl (by decide) 1 rfl 0 rfl rfl hl.1 rfl (Nat.le_of_ble_eq_true rfl) dX1_commit_76 ⟨Nat.zero_le _, Nat.zero_le _⟩ (fun H locs hP hD hS => ?_)
            refine lv_aload_n hx hb dX1_commit_79 rfl (lv_at hl 1 rfl) ?_
            refine lv_aload_n hx hb dX1_commit_80 rfl (lv_at hl 1 rfl) ?_
            refine va_get (ci := 1) (v := .int 0) (C := RX1) (T := TX1) (N := 10) hx hb hts (by decide +kernel) hown hK hP 0 rfl rfl 5 (by decide) (hts (.fieldLink RX1 30 "CommitLogModel" "off" "Z") (by decide +kernel)) (fun _ h9 => h9) rfl dX1_commit_81 ?_
            refine lv_if_eq (tgt := 104) hx hb dX1_commit_84 (by decide) (fun c_5 => ?_) (fun c_5 => ?_)
            · -- T of pc 84
              refine lv_iload_n hx hb dX1_commit_104 rfl (lv_at hl 0 rfl) ?_
              refine ct_Vv (As := [.int (nI (cnt dz 24))]) (rest := []) (wr := []) (wn := [(h0, .inr (1, [.ref a1, .ref a2, .ref a3, .ref a4, .ref a5, .int 0, .int 1, .int (nI (cnt dz 24)), .int (lfI none), .int (nI sh)])), (a1, .inl (k1, 384, .inl gw)), (a2, .inl (k2, 384, .inl (lyK (ntK gw dz gl 24) (lgK dz lg 24) (cnt dz 24) gd 24))), (a3, .inl (k3, 384, .inl (ntK gw dz gl 24))), (a4, .inl (k4, 24, .inl (fun j => bI (dz j)))), (a5, .inl (k5, 24, .inl (fun j => bI ((lgK dz lg 24) j))))]) ⟨hx, hb, hml, hown, hts⟩ (c1_lay l D h0 a1 a2 a3 a4 a5 k1 k2 k3 k4 k5 gw gd (ntK gw dz gl 24) dz (lgK dz lg 24) false true (cnt dz 24) none sh (cnt dz 24) hc) (cwV 1 hts gX1_commit_X1_lay rfl rfl rfl (by decide +kernel) ⟨Nat.le_of_ble_eq_true rfl, Nat.le_of_ble_eq_true rfl⟩) hK hP hD hS hA [0, 1, 2, 3, 4, 5] [] [0, 1, 2, 3, 4] [0, 1, 2, 3, 4, 5] rfl rfl (by decide) rfl (by decide) (by decide) rfl (by decide) 1 rfl 0 rfl rfl hl.1 rfl (Nat.le_of_ble_eq_true rfl) dX1_commit_105 ⟨Nat.zero_le _, Nat.zero_le _⟩ (fun H locs hP hD hS => ?_)
              refine lv_aload_n hx hb dX1_commit_108 rfl (lv_at hl 1 rfl) ?_
              refine lv_aload_n hx hb dX1_commit_109 rfl (lv_at hl 1 rfl) ?_
              refine va_get (ci := 1) (v := .int 0) (C := RX1) (T := TX1) (N := 10) hx hb hts (by decide +kernel) hown hK hP 0 rfl rfl 5 (by decide) (hts (.fieldLink RX1 30 "CommitLogModel" "off" "Z") (by decide +kernel)) (fun _ h9 => h9) rfl dX1_commit_110 ?_
              refine va_put (ci := 1) (v := .int 0) (ty := .boolean) (C := RX1) (T := TX1) (N := 10) hx hb hts (by decide +kernel) tyX1 tyX1_ok nmX1 hown hK hP hD hS 0 rfl rfl 6 (by decide) (hts (.fieldLink RX1 42 "CommitLogModel" "mark" "Z") (by decide +kernel)) (fun _ h9 => h9) rfl (by decide +kernel) rfl rfl (Nat.le_of_ble_eq_true rfl) dX1_commit_113 (fun H locs hP hD hS => ?_)
              have hP : va_P D vwCl [(h0, .inr (1, [.ref a1, .ref a2, .ref a3, .ref a4, .ref a5, .int 0, .int 0, .int (nI (cnt dz 24)), .int (lfI none), .int (nI sh)])), (a1, .inl (k1, 384, .inl gw)), (a2, .inl (k2, 384, .inl (lyK (ntK gw dz gl 24) (lgK dz lg 24) (cnt dz 24) gd 24))), (a3, .inl (k3, 384, .inl (ntK gw dz gl 24))), (a4, .inl (k4, 24, .inl (fun j => bI (dz j)))), (a5, .inl (k5, 24, .inl (fun j => bI ((lgK dz lg 24) j))))] H := hP
              have hD : va_D _ [(h0, .inr (1, [.ref a1, .ref a2, .ref a3, .ref a4, .ref a5, .int 0, .int 0, .int (nI (cnt dz 24)), .int (lfI none), .int (nI sh)])), (a1, .inl (k1, 384, .inl gw)), (a2, .inl (k2, 384, .inl (lyK (ntK gw dz gl 24) (lgK dz lg 24) (cnt dz 24) gd 24))), (a3, .inl (k3, 384, .inl (ntK gw dz gl 24))), (a4, .inl (k4, 24, .inl (fun j => bI (dz j)))), (a5, .inl (k5, 24, .inl (fun j => bI ((lgK dz lg 24) j))))] := hD
              refine lv_iconst (v := 0) hx hb dX1_commit_116 (by decide) ?_
              refine lv_istore_n (lv' := [(2, .int 0), (1, .int (nI (cnt dz 24))), (0, .ref h0)]) hx hb dX1_commit_117 rfl hl (by decide) rfl (fun ls hl => ?_)
              have loop : ∀ (n k : Nat), k + n = 24 → ∀ (ls : Array Slot) (H : Heap) (locs : List Loc), lv_has ls 3 [(2, .int (nI k)), (1, .int (nI (cnt dz 24))), (0, .ref h0)] → va_P D vwCl [(h0, .inr (1, [.ref a1, .ref a2, .ref a3, .ref a4, .ref a5, .int 0, .int 0, .int (nI (cnt dz 24)), .int (lfI none), .int (nI sh)])), (a1, .inl (k1, 384, .inl gw)), (a2, .inl (k2, 384, .inl (lyK (ntK gw dz gl 24) (lgK dz lg 24) (cnt dz 24) gd 24))), (a3, .inl (k3, 384, .inl (ntK gw dz gl 24))), (a4, .inl (k4, 24, .inl (fun j => bI (clr dz k j)))), (a5, .inl (k5, 24, .inl (fun j => bI ((lgK dz lg 24) j))))] H → va_D A [(h0, .inr (1, [.ref a1, .ref a2, .ref a3, .ref a4, .ref a5, .int 0, .int 0, .int (nI (cnt dz 24)), .int (lfI none), .int (nI sh)])), (a1, .inl (k1, 384, .inl gw)), (a2, .inl (k2, 384, .inl (lyK (ntK gw dz gl 24) (lgK dz lg 24) (cnt dz 24) gd 24))), (a3, .inl (k3, 384, .inl (ntK gw dz gl 24))), (a4, .inl (k4, 24, .inl (fun j => bI (clr dz k j)))), (a5, .inl (k5, 24, .inl (fun j => bI ((lgK dz lg 24) j))))] → va_S A s.heap H locs → W p l e ({ frames := 2, cells := 0, slots := 0, locals := 46 }) s m args below meth c H locs 0 0 Q (F0 m 118 ls []) := by
                intro n
                induction n with
                | zero =>
                  intro k hk ls H locs hl hP hD hS
                  obtain rfl : k = 24 := by omega
                  refine lv_iload_n hx hb dX1_commit_118 rfl (lv_at hl 0 rfl) ?_
                  refine lv_bipush (v := 24) hx hb dX1_commit_119 (by decide) ?_
                  refine lv_icmp_ge (tgt := 137) hx hb dX1_commit_121 (by decide) (fun c_6 => ?_) (fun c_6 => ?_)
                  · -- T of pc 121
                    refine lv_aload_n hx hb dX1_commit_137 rfl (lv_at hl 2 rfl) ?_
                    refine va_get (ci := 1) (v := .int 0) (C := RX1) (T := TX1) (N := 10) hx hb hts (by decide +kernel) hown hK hP 0 rfl rfl 5 (by decide) (hts (.fieldLink RX1 30 "CommitLogModel" "off" "Z") (by decide +kernel)) (fun _ h9 => h9) rfl dX1_commit_138 ?_
                    refine lv_if_ne (tgt := 148) hx hb dX1_commit_141 (by decide) (fun c_7 => ?_) (fun c_7 => ?_)
                    · -- T of pc 141
                      exact absurd (by decide) c_7
                    · -- F of pc 141
                      refine lv_iconst (v := 1) hx hb dX1_commit_144 (by decide) ?_
                      refine lv_goto (tgt := 149) hx hb dX1_commit_145 (by decide) ?_
                      exact hret _ _ _ _ _ hP hD hS rfl dX1_commit_149
                  · -- F of pc 121
                    exact absurd (by decide) c_6
                | succ n ih =>
                  intro k hk ls H locs hl hP hD hS
                  refine lv_iload_n hx hb dX1_commit_118 rfl (lv_at hl 0 rfl) ?_
                  refine lv_bipush (v := 24) hx hb dX1_commit_119 (by decide) ?_
                  refine lv_icmp_ge (tgt := 137) hx hb dX1_commit_121 (by decide) (fun c_8 => ?_) (fun c_8 => ?_)
                  · -- T of pc 121
                    exact absurd c_8 (show ¬ nI 24 ≤ nI k from nI_ge (by omega) (by decide))
                  · -- F of pc 121
                    refine lv_aload_n hx hb dX1_commit_124 rfl (lv_at hl 2 rfl) ?_
                    refine va_get (ci := 1) (v := .ref a4) (C := RX1) (T := TX1) (N := 10) hx hb hts (by decide +kernel) hown hK hP 0 rfl rfl 3 (by decide) (hts (.fieldLink RX1 19 "CommitLogModel" "dirty" "[Z") (by decide +kernel)) (fun _ h9 => h9) rfl dX1_commit_125 ?_
                    refine lv_iload_n hx hb dX1_commit_128 rfl (lv_at hl 0 rfl) ?_
                    refine lv_iconst (v := 0) hx hb dX1_commit_129 (by decide) ?_
                    refine va_zast hx hb hK hP hD hS 4 3 rfl rfl (vp_in_nI (by omega) (by decide)) dX1_commit_130 (fun H locs hP hD hS => ?_)
                    rw [cl_nI (show k < 2 ^ 31 by omega), show vp_nar .boolean 0 = bI false from rfl, up_bI, clr_s] at hP hD
                    have hP : va_P D vwCl [(h0, .inr (1, [.ref a1, .ref a2, .ref a3, .ref a4, .ref a5, .int 0, .int 0, .int (nI (cnt dz 24)), .int (lfI none), .int (nI sh)])), (a1, .inl (k1, 384, .inl gw)), (a2, .inl (k2, 384, .inl (lyK (ntK gw dz gl 24) (lgK dz lg 24) (cnt dz 24) gd 24))), (a3, .inl (k3, 384, .inl (ntK gw dz gl 24))), (a4, .inl (k4, 24, .inl (fun j => bI (clr dz (k + 1) j)))), (a5, .inl (k5, 24, .inl (fun j => bI ((lgK dz lg 24) j))))] H := hP
                    have hD : va_D _ [(h0, .inr (1, [.ref a1, .ref a2, .ref a3, .ref a4, .ref a5, .int 0, .int 0, .int (nI (cnt dz 24)), .int (lfI none), .int (nI sh)])), (a1, .inl (k1, 384, .inl gw)), (a2, .inl (k2, 384, .inl (lyK (ntK gw dz gl 24) (lgK dz lg 24) (cnt dz 24) gd 24))), (a3, .inl (k3, 384, .inl (ntK gw dz gl 24))), (a4, .inl (k4, 24, .inl (fun j => bI (clr dz (k + 1) j)))), (a5, .inl (k5, 24, .inl (fun j => bI ((lgK dz lg 24) j))))] := hD
                    refine lv_iinc (v := (nI (k + 1))) (lv' := [(2, .int (nI (k + 1))), (1, .int (nI (cnt dz 24))), (0, .ref h0)]) hx hb dX1_commit_131 hl (k := 0) rfl (nI_1 _) (by decide) rfl (fun ls hl => ?_)
                    refine lv_goto (tgt := 118) hx hb dX1_commit_134 (by decide) ?_
                    exact ih (k + 1) (by omega) ls H locs (lv_sub hl [0, 1, 2] rfl) hP hD hS
              exact loop 24 0 rfl ls _ _ (lv_sub hl [0, 1, 2] rfl) (by rw [clr_0]; exact hP) (by rw [clr_0]; exact hD) hS
            · -- F of pc 84
              exact absurd (by decide) c_5
          · -- F of pc 60
            exact absurd (by decide) c_4
        · -- F of pc 45
          exact absurd c_3 (by decide)
      · -- F of pc 24
        exact absurd (by decide) c_2
    · -- F of pc 4
      exact absurd (by decide) c_1
  | some 1, h => exact absurd rfl h
  | some (z9 + 2), _ =>
    simp only [lfD]
    have hk2 : z9 + 2 ≤ 1000 := hl1 _ rfl
    refine ct_i.of (cc := cX1_commit) (maxL := 3) (ty := .boolean) (by decide) rfl (Nat.le_of_ble_eq_true rfl) (nb_bI _) ?_
    intro p e s m args below meth c ls A Q hx hb hml hts hown hK hP hD hA hS hl hret
    have hown : s.vm.findClass RX1 = some m.cls := hown
    have hl : lv_has ls 3 [(0, .ref h0)] := hl
    have hP : va_P D vwCl [(h0, .inr (1, [.ref a1, .ref a2, .ref a3, .ref a4, .ref a5, .int 0, .int (bI mk), .int (nI la), .int (lfI (some (z9 + 2))), .int (nI sh)])), (a1, .inl (k1, 384, .inl gw)), (a2, .inl (k2, 384, .inl gd)), (a3, .inl (k3, 384, .inl gl)), (a4, .inl (k4, 24, .inl (fun j => bI (dz j)))), (a5, .inl (k5, 24, .inl (fun j => bI (lg j))))] s.heap := hP
    have hD : va_D A [(h0, .inr (1, [.ref a1, .ref a2, .ref a3, .ref a4, .ref a5, .int 0, .int (bI mk), .int (nI la), .int (lfI (some (z9 + 2))), .int (nI sh)])), (a1, .inl (k1, 384, .inl gw)), (a2, .inl (k2, 384, .inl gd)), (a3, .inl (k3, 384, .inl gl)), (a4, .inl (k4, 24, .inl (fun j => bI (dz j)))), (a5, .inl (k5, 24, .inl (fun j => bI (lg j))))] := hD
    refine lv_aload_n hx hb dX1_commit_0 rfl (lv_at hl 0 rfl) ?_
    refine va_get (ci := 1) (v := .int 0) (C := RX1) (T := TX1) (N := 10) hx hb hts (by decide +kernel) hown hK hP 0 rfl rfl 5 (by decide) (hts (.fieldLink RX1 30 "CommitLogModel" "off" "Z") (by decide +kernel)) (fun _ h9 => h9) rfl dX1_commit_1 ?_
    refine lv_if_eq (tgt := 9) hx hb dX1_commit_4 (by decide) (fun c_1 => ?_) (fun c_1 => ?_)
    · -- T of pc 4
      refine lv_aload_n hx hb dX1_commit_9 rfl (lv_at hl 0 rfl) ?_
      refine ct_Vi (As := []) (rest := []) (wr := []) (wn := [(h0, .inr (1, [.ref a1, .ref a2, .ref a3, .ref a4, .ref a5, .int 0, .int (bI mk), .int (nI la), .int (lfI (some (z9 + 2))), .int (nI sh)])), (a1, .inl (k1, 384, .inl gw)), (a2, .inl (k2, 384, .inl gd)), (a3, .inl (k3, 384, .inl gl)), (a4, .inl (k4, 24, .inl (fun j => bI (dz j)))), (a5, .inl (k5, 24, .inl (fun j => bI (lg j))))]) ⟨hx, hb, hml, hown, hts⟩ (c1_many l D h0 a1 a2 a3 a4 a5 k1 k2 k3 k4 k5 gw gd gl dz lg false mk la (some (z9 + 2)) sh) (cwV 0 hts gX1_commit_X1_many rfl rfl rfl (by decide +kernel) ⟨Nat.le_of_ble_eq_true rfl, Nat.le_of_ble_eq_true rfl⟩) hK hP hD hS hA [0, 1, 2, 3, 4, 5] [] [0, 1, 2, 3, 4] [0, 1, 2, 3, 4, 5] rfl rfl (by decide) rfl (by decide) (by decide) rfl (by decide) 1 rfl 0 rfl rfl hl.1 rfl (Nat.le_of_ble_eq_true rfl) dX1_commit_10 ⟨Nat.zero_le _, Nat.zero_le _⟩ (fun H locs hP hD hS => ?_)
      refine lv_istore_n (lv' := [(1, .int (nI (cnt dz 24))), (0, .ref h0)]) hx hb dX1_commit_13 rfl hl (by decide) rfl (fun ls hl => ?_)
      refine lv_aload_n hx hb dX1_commit_14 rfl (lv_at hl 1 rfl) ?_
      refine lv_iload_n hx hb dX1_commit_15 rfl (lv_at hl 0 rfl) ?_
      refine va_put (ci := 1) (v := .int (nI (cnt dz 24))) (ty := .int) (C := RX1) (T := TX1) (N := 10) hx hb hts (by decide +kernel) tyX1 tyX1_ok nmX1 hown hK hP hD hS 0 rfl rfl 7 (by decide) (hts (.fieldLink RX1 49 "CommitLogModel" "latest" "I") (by decide +kernel)) (fun _ h9 => h9) rfl (by decide +kernel) rfl rfl (Nat.le_of_ble_eq_true rfl) dX1_commit_16 (fun H locs hP hD hS => ?_)
      have hP : va_P D vwCl [(h0, .inr (1, [.ref a1, .ref a2, .ref a3, .ref a4, .ref a5, .int 0, .int (bI mk), .int (nI (cnt dz 24)), .int (lfI (some (z9 + 2))), .int (nI sh)])), (a1, .inl (k1, 384, .inl gw)), (a2, .inl (k2, 384, .inl gd)), (a3, .inl (k3, 384, .inl gl)), (a4, .inl (k4, 24, .inl (fun j => bI (dz j)))), (a5, .inl (k5, 24, .inl (fun j => bI (lg j))))] H := hP
      have hD : va_D _ [(h0, .inr (1, [.ref a1, .ref a2, .ref a3, .ref a4, .ref a5, .int 0, .int (bI mk), .int (nI (cnt dz 24)), .int (lfI (some (z9 + 2))), .int (nI sh)])), (a1, .inl (k1, 384, .inl gw)), (a2, .inl (k2, 384, .inl gd)), (a3, .inl (k3, 384, .inl gl)), (a4, .inl (k4, 24, .inl (fun j => bI (dz j)))), (a5, .inl (k5, 24, .inl (fun j => bI (lg j))))] := hD
      refine lv_aload_n hx hb dX1_commit_19 rfl (lv_at hl 1 rfl) ?_
      refine lv_aload_n hx hb dX1_commit_20 rfl (lv_at hl 1 rfl) ?_
      refine va_get (ci := 1) (v := .int (lfI (some (z9 + 2)))) (C := RX1) (T := TX1) (N := 10) hx hb hts (by decide +kernel) hown hK hP 0 rfl rfl 8 (by decide) (hts (.fieldLink RX1 53 "CommitLogModel" "left" "I") (by decide +kernel)) (fun _ h9 => h9) rfl dX1_commit_21 ?_
      refine lv_if_le (tgt := 36) hx hb dX1_commit_24 (by decide) (fun c_2 => ?_) (fun c_2 => ?_)
      · -- T of pc 24
        exact absurd c_2 (show ¬ nI (z9 + 2) ≤ 0 from nI_nle (by omega) (by omega))
      · -- F of pc 24
        refine lv_aload_n hx hb dX1_commit_27 rfl (lv_at hl 1 rfl) ?_
        refine va_get (ci := 1) (v := .int (lfI (some (z9 + 2)))) (C := RX1) (T := TX1) (N := 10) hx hb hts (by decide +kernel) hown hK hP 0 rfl rfl 8 (by decide) (hts (.fieldLink RX1 53 "CommitLogModel" "left" "I") (by decide +kernel)) (fun _ h9 => h9) rfl dX1_commit_28 ?_
        refine lv_iconst (v := 1) hx hb dX1_commit_31 (by decide) ?_
        refine lv_isub hx hb dX1_commit_32 ?_
        refine tp_as (z := lfI (some (z9 + 1))) (nI_pred _) ?_
        refine lv_goto (tgt := 37) hx hb dX1_commit_33 (by decide) ?_
        refine va_put (ci := 1) (v := .int (lfI (some (z9 + 1)))) (ty := .int) (C := RX1) (T := TX1) (N := 10) hx hb hts (by decide +kernel) tyX1 tyX1_ok nmX1 hown hK hP hD hS 0 rfl rfl 8 (by decide) (hts (.fieldLink RX1 53 "CommitLogModel" "left" "I") (by decide +kernel)) (fun _ h9 => h9) rfl (by decide +kernel) rfl rfl (Nat.le_of_ble_eq_true rfl) dX1_commit_37 (fun H locs hP hD hS => ?_)
        have hP : va_P D vwCl [(h0, .inr (1, [.ref a1, .ref a2, .ref a3, .ref a4, .ref a5, .int 0, .int (bI mk), .int (nI (cnt dz 24)), .int (lfI (some (z9 + 1))), .int (nI sh)])), (a1, .inl (k1, 384, .inl gw)), (a2, .inl (k2, 384, .inl gd)), (a3, .inl (k3, 384, .inl gl)), (a4, .inl (k4, 24, .inl (fun j => bI (dz j)))), (a5, .inl (k5, 24, .inl (fun j => bI (lg j))))] H := hP
        have hD : va_D _ [(h0, .inr (1, [.ref a1, .ref a2, .ref a3, .ref a4, .ref a5, .int 0, .int (bI mk), .int (nI (cnt dz 24)), .int (lfI (some (z9 + 1))), .int (nI sh)])), (a1, .inl (k1, 384, .inl gw)), (a2, .inl (k2, 384, .inl gd)), (a3, .inl (k3, 384, .inl gl)), (a4, .inl (k4, 24, .inl (fun j => bI (dz j)))), (a5, .inl (k5, 24, .inl (fun j => bI (lg j))))] := hD
        refine lv_aload_n hx hb dX1_commit_40 rfl (lv_at hl 1 rfl) ?_
        refine lv_aload_n hx hb dX1_commit_41 rfl (lv_at hl 1 rfl) ?_
        refine va_get (ci := 1) (v := .int (lfI (some (z9 + 1)))) (C := RX1) (T := TX1) (N := 10) hx hb hts (by decide +kernel) hown hK hP 0 rfl rfl 8 (by decide) (hts (.fieldLink RX1 53 "CommitLogModel" "left" "I") (by decide +kernel)) (fun _ h9 => h9) rfl dX1_commit_42 ?_
        refine lv_if_ne (tgt := 52) hx hb dX1_commit_45 (by decide) (fun c_3 => ?_) (fun c_3 => ?_)
        · -- T of pc 45
          refine lv_iconst (v := 0) hx hb dX1_commit_52 (by decide) ?_
          refine va_put (ci := 1) (v := .int 0) (ty := .boolean) (C := RX1) (T := TX1) (N := 10) hx hb hts (by decide +kernel) tyX1 tyX1_ok nmX1 hown hK hP hD hS 0 rfl rfl 5 (by decide) (hts (.fieldLink RX1 30 "CommitLogModel" "off" "Z") (by decide +kernel)) (fun _ h9 => h9) rfl (by decide +kernel) rfl rfl (Nat.le_of_ble_eq_true rfl) dX1_commit_53 (fun H locs hP hD hS => ?_)
          have hP : va_P D vwCl [(h0, .inr (1, [.ref a1, .ref a2, .ref a3, .ref a4, .ref a5, .int 0, .int (bI mk), .int (nI (cnt dz 24)), .int (lfI (some (z9 + 1))), .int (nI sh)])), (a1, .inl (k1, 384, .inl gw)), (a2, .inl (k2, 384, .inl gd)), (a3, .inl (k3, 384, .inl gl)), (a4, .inl (k4, 24, .inl (fun j => bI (dz j)))), (a5, .inl (k5, 24, .inl (fun j => bI (lg j))))] H := hP
          have hD : va_D _ [(h0, .inr (1, [.ref a1, .ref a2, .ref a3, .ref a4, .ref a5, .int 0, .int (bI mk), .int (nI (cnt dz 24)), .int (lfI (some (z9 + 1))), .int (nI sh)])), (a1, .inl (k1, 384, .inl gw)), (a2, .inl (k2, 384, .inl gd)), (a3, .inl (k3, 384, .inl gl)), (a4, .inl (k4, 24, .inl (fun j => bI (dz j)))), (a5, .inl (k5, 24, .inl (fun j => bI (lg j))))] := hD
          refine lv_aload_n hx hb dX1_commit_56 rfl (lv_at hl 1 rfl) ?_
          refine va_get (ci := 1) (v := .int 0) (C := RX1) (T := TX1) (N := 10) hx hb hts (by decide +kernel) hown hK hP 0 rfl rfl 5 (by decide) (hts (.fieldLink RX1 30 "CommitLogModel" "off" "Z") (by decide +kernel)) (fun _ h9 => h9) rfl dX1_commit_57 ?_
          refine lv_if_eq (tgt := 75) hx hb dX1_commit_60 (by decide) (fun c_4 => ?_) (fun c_4 => ?_)
          · -- T of pc 60
            refine lv_aload_n hx hb dX1_commit_75 rfl (lv_at hl 1 rfl) ?_
            refine ct_Vv (As := []) (rest := []) (wr := []) (wn := [(h0, .inr (1, [.ref a1, .ref a2, .ref a3, .ref a4, .ref a5, .int 0, .int 1, .int (nI (cnt dz 24)), .int (lfI (some (z9 + 1))), .int (nI sh)])), (a1, .inl (k1, 384, .inl gw)), (a2, .inl (k2, 384, .inl gd)), (a3, .inl (k3, 384, .inl (ntK gw dz gl 24))), (a4, .inl (k4, 24, .inl (fun j => bI (dz j)))), (a5, .inl (k5, 24, .inl (fun j => bI ((lgK dz lg 24) j))))]) ⟨hx, hb, hml, hown, hts⟩ (c1_note l D h0 a1 a2 a3 a4 a5 k1 k2 k3 k4 k5 gw gd gl dz lg false mk (cnt dz 24) (some (z9 + 1)) sh) (cwV 0 hts gX1_commit_X1_note rfl rfl rfl (by decide +kernel) ⟨Nat.le_of_ble_eq_true rfl, Nat.le_of_ble_eq_true rfl⟩) hK hP hD hS hA [0, 1, 2, 3, 4, 5] [] [0, 1, 2, 3, 4] [0, 1, 2, 3, 4, 5] rfl rfl (by decide) rfl (by decide) (by decide) rfl (by decide) 1 rfl 0 rfl rfl hl.1 rfl (Nat.le_of_ble_eq_true rfl) dX1_commit_76 ⟨Nat.zero_le _, Nat.zero_le _⟩ (fun H locs hP hD hS => ?_)
            refine lv_aload_n hx hb dX1_commit_79 rfl (lv_at hl 1 rfl) ?_
            refine lv_aload_n hx hb dX1_commit_80 rfl (lv_at hl 1 rfl) ?_
            refine va_get (ci := 1) (v := .int 0) (C := RX1) (T := TX1) (N := 10) hx hb hts (by decide +kernel) hown hK hP 0 rfl rfl 5 (by decide) (hts (.fieldLink RX1 30 "CommitLogModel" "off" "Z") (by decide +kernel)) (fun _ h9 => h9) rfl dX1_commit_81 ?_
            refine lv_if_eq (tgt := 104) hx hb dX1_commit_84 (by decide) (fun c_5 => ?_) (fun c_5 => ?_)
            · -- T of pc 84
              refine lv_iload_n hx hb dX1_commit_104 rfl (lv_at hl 0 rfl) ?_
              refine ct_Vv (As := [.int (nI (cnt dz 24))]) (rest := []) (wr := []) (wn := [(h0, .inr (1, [.ref a1, .ref a2, .ref a3, .ref a4, .ref a5, .int 0, .int 1, .int (nI (cnt dz 24)), .int (lfI (some (z9 + 1))), .int (nI sh)])), (a1, .inl (k1, 384, .inl gw)), (a2, .inl (k2, 384, .inl (lyK (ntK gw dz gl 24) (lgK dz lg 24) (cnt dz 24) gd 24))), (a3, .inl (k3, 384, .inl (ntK gw dz gl 24))), (a4, .inl (k4, 24, .inl (fun j => bI (dz j)))), (a5, .inl (k5, 24, .inl (fun j => bI ((lgK dz lg 24) j))))]) ⟨hx, hb, hml, hown, hts⟩ (c1_lay l D h0 a1 a2 a3 a4 a5 k1 k2 k3 k4 k5 gw gd (ntK gw dz gl 24) dz (lgK dz lg 24) false true (cnt dz 24) (some (z9 + 1)) sh (cnt dz 24) hc) (cwV 1 hts gX1_commit_X1_lay rfl rfl rfl (by decide +kernel) ⟨Nat.le_of_ble_eq_true rfl, Nat.le_of_ble_eq_true rfl⟩) hK hP hD hS hA [0, 1, 2, 3, 4, 5] [] [0, 1, 2, 3, 4] [0, 1, 2, 3, 4, 5] rfl rfl (by decide) rfl (by decide) (by decide) rfl (by decide) 1 rfl 0 rfl rfl hl.1 rfl (Nat.le_of_ble_eq_true rfl) dX1_commit_105 ⟨Nat.zero_le _, Nat.zero_le _⟩ (fun H locs hP hD hS => ?_)
              refine lv_aload_n hx hb dX1_commit_108 rfl (lv_at hl 1 rfl) ?_
              refine lv_aload_n hx hb dX1_commit_109 rfl (lv_at hl 1 rfl) ?_
              refine va_get (ci := 1) (v := .int 0) (C := RX1) (T := TX1) (N := 10) hx hb hts (by decide +kernel) hown hK hP 0 rfl rfl 5 (by decide) (hts (.fieldLink RX1 30 "CommitLogModel" "off" "Z") (by decide +kernel)) (fun _ h9 => h9) rfl dX1_commit_110 ?_
              refine va_put (ci := 1) (v := .int 0) (ty := .boolean) (C := RX1) (T := TX1) (N := 10) hx hb hts (by decide +kernel) tyX1 tyX1_ok nmX1 hown hK hP hD hS 0 rfl rfl 6 (by decide) (hts (.fieldLink RX1 42 "CommitLogModel" "mark" "Z") (by decide +kernel)) (fun _ h9 => h9) rfl (by decide +kernel) rfl rfl (Nat.le_of_ble_eq_true rfl) dX1_commit_113 (fun H locs hP hD hS => ?_)
              have hP : va_P D vwCl [(h0, .inr (1, [.ref a1, .ref a2, .ref a3, .ref a4, .ref a5, .int 0, .int 0, .int (nI (cnt dz 24)), .int (lfI (some (z9 + 1))), .int (nI sh)])), (a1, .inl (k1, 384, .inl gw)), (a2, .inl (k2, 384, .inl (lyK (ntK gw dz gl 24) (lgK dz lg 24) (cnt dz 24) gd 24))), (a3, .inl (k3, 384, .inl (ntK gw dz gl 24))), (a4, .inl (k4, 24, .inl (fun j => bI (dz j)))), (a5, .inl (k5, 24, .inl (fun j => bI ((lgK dz lg 24) j))))] H := hP
              have hD : va_D _ [(h0, .inr (1, [.ref a1, .ref a2, .ref a3, .ref a4, .ref a5, .int 0, .int 0, .int (nI (cnt dz 24)), .int (lfI (some (z9 + 1))), .int (nI sh)])), (a1, .inl (k1, 384, .inl gw)), (a2, .inl (k2, 384, .inl (lyK (ntK gw dz gl 24) (lgK dz lg 24) (cnt dz 24) gd 24))), (a3, .inl (k3, 384, .inl (ntK gw dz gl 24))), (a4, .inl (k4, 24, .inl (fun j => bI (dz j)))), (a5, .inl (k5, 24, .inl (fun j => bI ((lgK dz lg 24) j))))] := hD
              refine lv_iconst (v := 0) hx hb dX1_commit_116 (by decide) ?_
              refine lv_istore_n (lv' := [(2, .int 0), (1, .int (nI (cnt dz 24))), (0, .ref h0)]) hx hb dX1_commit_117 rfl hl (by decide) rfl (fun ls hl => ?_)
              have loop : ∀ (n k : Nat), k + n = 24 → ∀ (ls : Array Slot) (H : Heap) (locs : List Loc), lv_has ls 3 [(2, .int (nI k)), (1, .int (nI (cnt dz 24))), (0, .ref h0)] → va_P D vwCl [(h0, .inr (1, [.ref a1, .ref a2, .ref a3, .ref a4, .ref a5, .int 0, .int 0, .int (nI (cnt dz 24)), .int (lfI (some (z9 + 1))), .int (nI sh)])), (a1, .inl (k1, 384, .inl gw)), (a2, .inl (k2, 384, .inl (lyK (ntK gw dz gl 24) (lgK dz lg 24) (cnt dz 24) gd 24))), (a3, .inl (k3, 384, .inl (ntK gw dz gl 24))), (a4, .inl (k4, 24, .inl (fun j => bI (clr dz k j)))), (a5, .inl (k5, 24, .inl (fun j => bI ((lgK dz lg 24) j))))] H → va_D A [(h0, .inr (1, [.ref a1, .ref a2, .ref a3, .ref a4, .ref a5, .int 0, .int 0, .int (nI (cnt dz 24)), .int (lfI (some (z9 + 1))), .int (nI sh)])), (a1, .inl (k1, 384, .inl gw)), (a2, .inl (k2, 384, .inl (lyK (ntK gw dz gl 24) (lgK dz lg 24) (cnt dz 24) gd 24))), (a3, .inl (k3, 384, .inl (ntK gw dz gl 24))), (a4, .inl (k4, 24, .inl (fun j => bI (clr dz k j)))), (a5, .inl (k5, 24, .inl (fun j => bI ((lgK dz lg 24) j))))] → va_S A s.heap H locs → W p l e ({ frames := 2, cells := 0, slots := 0, locals := 46 }) s m args below meth c H locs 0 0 Q (F0 m 118 ls []) := by
                intro n
                induction n with
                | zero =>
                  intro k hk ls H locs hl hP hD hS
                  obtain rfl : k = 24 := by omega
                  refine lv_iload_n hx hb dX1_commit_118 rfl (lv_at hl 0 rfl) ?_
                  refine lv_bipush (v := 24) hx hb dX1_commit_119 (by decide) ?_
                  refine lv_icmp_ge (tgt := 137) hx hb dX1_commit_121 (by decide) (fun c_6 => ?_) (fun c_6 => ?_)
                  · -- T of pc 121
                    refine lv_aload_n hx hb dX1_commit_137 rfl (lv_at hl 2 rfl) ?_
                    refine va_get (ci := 1) (v := .int 0) (C := RX1) (T := TX1) (N := 10) hx hb hts (by decide +kernel) hown hK hP 0 rfl rfl 5 (by decide) (hts (.fieldLink RX1 30 "CommitLogModel" "off" "Z") (by decide +kernel)) (fun _ h9 => h9) rfl dX1_commit_138 ?_
                    refine lv_if_ne (tgt := 148) hx hb dX1_commit_141 (by decide) (fun c_7 => ?_) (fun c_7 => ?_)
                    · -- T of pc 141
                      exact absurd (by decide) c_7
                    · -- F of pc 141
                      refine lv_iconst (v := 1) hx hb dX1_commit_144 (by decide) ?_
                      refine lv_goto (tgt := 149) hx hb dX1_commit_145 (by decide) ?_
                      exact hret _ _ _ _ _ hP hD hS rfl dX1_commit_149
                  · -- F of pc 121
                    exact absurd (by decide) c_6
                | succ n ih =>
                  intro k hk ls H locs hl hP hD hS
                  refine lv_iload_n hx hb dX1_commit_118 rfl (lv_at hl 0 rfl) ?_
                  refine lv_bipush (v := 24) hx hb dX1_commit_119 (by decide) ?_
                  refine lv_icmp_ge (tgt := 137) hx hb dX1_commit_121 (by decide) (fun c_8 => ?_) (fun c_8 => ?_)
                  · -- T of pc 121
                    exact absurd c_8 (show ¬ nI 24 ≤ nI k from nI_ge (by omega) (by decide))
                  · -- F of pc 121
                    refine lv_aload_n hx hb dX1_commit_124 rfl (lv_at hl 2 rfl) ?_
                    refine va_get (ci := 1) (v := .ref a4) (C := RX1) (T := TX1) (N := 10) hx hb hts (by decide +kernel) hown hK hP 0 rfl rfl 3 (by decide) (hts (.fieldLink RX1 19 "CommitLogModel" "dirty" "[Z") (by decide +kernel)) (fun _ h9 => h9) rfl dX1_commit_125 ?_
                    refine lv_iload_n hx hb dX1_commit_128 rfl (lv_at hl 0 rfl) ?_
                    refine lv_iconst (v := 0) hx hb dX1_commit_129 (by decide) ?_
                    refine va_zast hx hb hK hP hD hS 4 3 rfl rfl (vp_in_nI (by omega) (by decide)) dX1_commit_130 (fun H locs hP hD hS => ?_)
                    rw [cl_nI (show k < 2 ^ 31 by omega), show vp_nar .boolean 0 = bI false from rfl, up_bI, clr_s] at hP hD
                    have hP : va_P D vwCl [(h0, .inr (1, [.ref a1, .ref a2, .ref a3, .ref a4, .ref a5, .int 0, .int 0, .int (nI (cnt dz 24)), .int (lfI (some (z9 + 1))), .int (nI sh)])), (a1, .inl (k1, 384, .inl gw)), (a2, .inl (k2, 384, .inl (lyK (ntK gw dz gl 24) (lgK dz lg 24) (cnt dz 24) gd 24))), (a3, .inl (k3, 384, .inl (ntK gw dz gl 24))), (a4, .inl (k4, 24, .inl (fun j => bI (clr dz (k + 1) j)))), (a5, .inl (k5, 24, .inl (fun j => bI ((lgK dz lg 24) j))))] H := hP
                    have hD : va_D _ [(h0, .inr (1, [.ref a1, .ref a2, .ref a3, .ref a4, .ref a5, .int 0, .int 0, .int (nI (cnt dz 24)), .int (lfI (some (z9 + 1))), .int (nI sh)])), (a1, .inl (k1, 384, .inl gw)), (a2, .inl (k2, 384, .inl (lyK (ntK gw dz gl 24) (lgK dz lg 24) (cnt dz 24) gd 24))), (a3, .inl (k3, 384, .inl (ntK gw dz gl 24))), (a4, .inl (k4, 24, .inl (fun j => bI (clr dz (k + 1) j)))), (a5, .inl (k5, 24, .inl (fun j => bI ((lgK dz lg 24) j))))] := hD
                    refine lv_iinc (v := (nI (k + 1))) (lv' := [(2, .int (nI (k + 1))), (1, .int (nI (cnt dz 24))), (0, .ref h0)]) hx hb dX1_commit_131 hl (k := 0) rfl (nI_1 _) (by decide) rfl (fun ls hl => ?_)
                    refine lv_goto (tgt := 118) hx hb dX1_commit_134 (by decide) ?_
                    exact ih (k + 1) (by omega) ls H locs (lv_sub hl [0, 1, 2] rfl) hP hD hS
              exact loop 24 0 rfl ls _ _ (lv_sub hl [0, 1, 2] rfl) (by rw [clr_0]; exact hP) (by rw [clr_0]; exact hD) hS
            · -- F of pc 84
              exact absurd (by decide) c_5
          · -- F of pc 60
            exact absurd (by decide) c_4
        · -- F of pc 45
          exact absurd c_3 (show ¬ nI (z9 + 1) = 0 from nI_ne0 (by omega) (by omega))
    · -- F of pc 4
      exact absurd (by decide) c_1
set_option maxHeartbeats 4000000 in
set_option maxRecDepth 100000 in
theorem c1_commit_low (l : Launch) (D : va_G) (h0 a1 a2 a3 a4 a5 : Nat) (k1 k2 k3 k4 k5 : ClassId) (gw gd gl : Nat → Int32) (dz lg : Nat → Bool) (mk : Bool) (la : Nat) (sh : Nat) (hsh : sh < 1000) (h5 : sh < 500) : ct_i l yX1_commit wsX1_commit ({ frames := 2, cells := 0, slots := 0, locals := 46 }) D vwCl (MT k1 k2 k3 k4 k5) [.ref h0] (MW h0 a1 a2 a3 a4 a5 k1 k2 k3 k4 k5 gw gd gl dz lg false mk la (some 1) sh) (MW h0 a1 a2 a3 a4 a5 k1 k2 k3 k4 k5 gw gd gl dz lg true mk (cnt dz 24) (some 0) sh) (bI false) := by
  have hc := cnt_le dz 24
  have hm2 : (cnt dz 24) * (sh - 500) ≤ 24 * 1000 := sh_mul hc (by omega)
  refine ct_i.of (cc := cX1_commit) (maxL := 3) (ty := .boolean) (by decide) rfl (Nat.le_of_ble_eq_true rfl) (nb_bI _) ?_
  intro p e s m args below meth c ls A Q hx hb hml hts hown hK hP hD hA hS hl hret
  have hown : s.vm.findClass RX1 = some m.cls := hown
  have hl : lv_has ls 3 [(0, .ref h0)] := hl
  have hP : va_P D vwCl [(h0, .inr (1, [.ref a1, .ref a2, .ref a3, .ref a4, .ref a5, .int 0, .int (bI mk), .int (nI la), .int (lfI (some 1)), .int (nI sh)])), (a1, .inl (k1, 384, .inl gw)), (a2, .inl (k2, 384, .inl gd)), (a3, .inl (k3, 384, .inl gl)), (a4, .inl (k4, 24, .inl (fun j => bI (dz j)))), (a5, .inl (k5, 24, .inl (fun j => bI (lg j))))] s.heap := hP
  have hD : va_D A [(h0, .inr (1, [.ref a1, .ref a2, .ref a3, .ref a4, .ref a5, .int 0, .int (bI mk), .int (nI la), .int (lfI (some 1)), .int (nI sh)])), (a1, .inl (k1, 384, .inl gw)), (a2, .inl (k2, 384, .inl gd)), (a3, .inl (k3, 384, .inl gl)), (a4, .inl (k4, 24, .inl (fun j => bI (dz j)))), (a5, .inl (k5, 24, .inl (fun j => bI (lg j))))] := hD
  refine lv_aload_n hx hb dX1_commit_0 rfl (lv_at hl 0 rfl) ?_
  refine va_get (ci := 1) (v := .int 0) (C := RX1) (T := TX1) (N := 10) hx hb hts (by decide +kernel) hown hK hP 0 rfl rfl 5 (by decide) (hts (.fieldLink RX1 30 "CommitLogModel" "off" "Z") (by decide +kernel)) (fun _ h9 => h9) rfl dX1_commit_1 ?_
  refine lv_if_eq (tgt := 9) hx hb dX1_commit_4 (by decide) (fun c_1 => ?_) (fun c_1 => ?_)
  · -- T of pc 4
    refine lv_aload_n hx hb dX1_commit_9 rfl (lv_at hl 0 rfl) ?_
    refine ct_Vi (As := []) (rest := []) (wr := []) (wn := [(h0, .inr (1, [.ref a1, .ref a2, .ref a3, .ref a4, .ref a5, .int 0, .int (bI mk), .int (nI la), .int (lfI (some 1)), .int (nI sh)])), (a1, .inl (k1, 384, .inl gw)), (a2, .inl (k2, 384, .inl gd)), (a3, .inl (k3, 384, .inl gl)), (a4, .inl (k4, 24, .inl (fun j => bI (dz j)))), (a5, .inl (k5, 24, .inl (fun j => bI (lg j))))]) ⟨hx, hb, hml, hown, hts⟩ (c1_many l D h0 a1 a2 a3 a4 a5 k1 k2 k3 k4 k5 gw gd gl dz lg false mk la (some 1) sh) (cwV 0 hts gX1_commit_X1_many rfl rfl rfl (by decide +kernel) ⟨Nat.le_of_ble_eq_true rfl, Nat.le_of_ble_eq_true rfl⟩) hK hP hD hS hA [0, 1, 2, 3, 4, 5] [] [0, 1, 2, 3, 4] [0, 1, 2, 3, 4, 5] rfl rfl (by decide) rfl (by decide) (by decide) rfl (by decide) 1 rfl 0 rfl rfl hl.1 rfl (Nat.le_of_ble_eq_true rfl) dX1_commit_10 ⟨Nat.zero_le _, Nat.zero_le _⟩ (fun H locs hP hD hS => ?_)
    refine lv_istore_n (lv' := [(1, .int (nI (cnt dz 24))), (0, .ref h0)]) hx hb dX1_commit_13 rfl hl (by decide) rfl (fun ls hl => ?_)
    refine lv_aload_n hx hb dX1_commit_14 rfl (lv_at hl 1 rfl) ?_
    refine lv_iload_n hx hb dX1_commit_15 rfl (lv_at hl 0 rfl) ?_
    refine va_put (ci := 1) (v := .int (nI (cnt dz 24))) (ty := .int) (C := RX1) (T := TX1) (N := 10) hx hb hts (by decide +kernel) tyX1 tyX1_ok nmX1 hown hK hP hD hS 0 rfl rfl 7 (by decide) (hts (.fieldLink RX1 49 "CommitLogModel" "latest" "I") (by decide +kernel)) (fun _ h9 => h9) rfl (by decide +kernel) rfl rfl (Nat.le_of_ble_eq_true rfl) dX1_commit_16 (fun H locs hP hD hS => ?_)
    have hP : va_P D vwCl [(h0, .inr (1, [.ref a1, .ref a2, .ref a3, .ref a4, .ref a5, .int 0, .int (bI mk), .int (nI (cnt dz 24)), .int (lfI (some 1)), .int (nI sh)])), (a1, .inl (k1, 384, .inl gw)), (a2, .inl (k2, 384, .inl gd)), (a3, .inl (k3, 384, .inl gl)), (a4, .inl (k4, 24, .inl (fun j => bI (dz j)))), (a5, .inl (k5, 24, .inl (fun j => bI (lg j))))] H := hP
    have hD : va_D _ [(h0, .inr (1, [.ref a1, .ref a2, .ref a3, .ref a4, .ref a5, .int 0, .int (bI mk), .int (nI (cnt dz 24)), .int (lfI (some 1)), .int (nI sh)])), (a1, .inl (k1, 384, .inl gw)), (a2, .inl (k2, 384, .inl gd)), (a3, .inl (k3, 384, .inl gl)), (a4, .inl (k4, 24, .inl (fun j => bI (dz j)))), (a5, .inl (k5, 24, .inl (fun j => bI (lg j))))] := hD
    refine lv_aload_n hx hb dX1_commit_19 rfl (lv_at hl 1 rfl) ?_
    refine lv_aload_n hx hb dX1_commit_20 rfl (lv_at hl 1 rfl) ?_
    refine va_get (ci := 1) (v := .int (lfI (some 1))) (C := RX1) (T := TX1) (N := 10) hx hb hts (by decide +kernel) hown hK hP 0 rfl rfl 8 (by decide) (hts (.fieldLink RX1 53 "CommitLogModel" "left" "I") (by decide +kernel)) (fun _ h9 => h9) rfl dX1_commit_21 ?_
    refine lv_if_le (tgt := 36) hx hb dX1_commit_24 (by decide) (fun c_2 => ?_) (fun c_2 => ?_)
    · -- T of pc 24
      exact absurd c_2 (by decide)
    · -- F of pc 24
      refine lv_aload_n hx hb dX1_commit_27 rfl (lv_at hl 1 rfl) ?_
      refine va_get (ci := 1) (v := .int (lfI (some 1))) (C := RX1) (T := TX1) (N := 10) hx hb hts (by decide +kernel) hown hK hP 0 rfl rfl 8 (by decide) (hts (.fieldLink RX1 53 "CommitLogModel" "left" "I") (by decide +kernel)) (fun _ h9 => h9) rfl dX1_commit_28 ?_
      refine lv_iconst (v := 1) hx hb dX1_commit_31 (by decide) ?_
      refine lv_isub hx hb dX1_commit_32 ?_
      refine tp_as (z := lfI (some 0)) rfl ?_
      refine lv_goto (tgt := 37) hx hb dX1_commit_33 (by decide) ?_
      refine va_put (ci := 1) (v := .int (lfI (some 0))) (ty := .int) (C := RX1) (T := TX1) (N := 10) hx hb hts (by decide +kernel) tyX1 tyX1_ok nmX1 hown hK hP hD hS 0 rfl rfl 8 (by decide) (hts (.fieldLink RX1 53 "CommitLogModel" "left" "I") (by decide +kernel)) (fun _ h9 => h9) rfl (by decide +kernel) rfl rfl (Nat.le_of_ble_eq_true rfl) dX1_commit_37 (fun H locs hP hD hS => ?_)
      have hP : va_P D vwCl [(h0, .inr (1, [.ref a1, .ref a2, .ref a3, .ref a4, .ref a5, .int 0, .int (bI mk), .int (nI (cnt dz 24)), .int (lfI (some 0)), .int (nI sh)])), (a1, .inl (k1, 384, .inl gw)), (a2, .inl (k2, 384, .inl gd)), (a3, .inl (k3, 384, .inl gl)), (a4, .inl (k4, 24, .inl (fun j => bI (dz j)))), (a5, .inl (k5, 24, .inl (fun j => bI (lg j))))] H := hP
      have hD : va_D _ [(h0, .inr (1, [.ref a1, .ref a2, .ref a3, .ref a4, .ref a5, .int 0, .int (bI mk), .int (nI (cnt dz 24)), .int (lfI (some 0)), .int (nI sh)])), (a1, .inl (k1, 384, .inl gw)), (a2, .inl (k2, 384, .inl gd)), (a3, .inl (k3, 384, .inl gl)), (a4, .inl (k4, 24, .inl (fun j => bI (dz j)))), (a5, .inl (k5, 24, .inl (fun j => bI (lg j))))] := hD
      refine lv_aload_n hx hb dX1_commit_40 rfl (lv_at hl 1 rfl) ?_
      refine lv_aload_n hx hb dX1_commit_41 rfl (lv_at hl 1 rfl) ?_
      refine va_get (ci := 1) (v := .int (lfI (some 0))) (C := RX1) (T := TX1) (N := 10) hx hb hts (by decide +kernel) hown hK hP 0 rfl rfl 8 (by decide) (hts (.fieldLink RX1 53 "CommitLogModel" "left" "I") (by decide +kernel)) (fun _ h9 => h9) rfl dX1_commit_42 ?_
      refine lv_if_ne (tgt := 52) hx hb dX1_commit_45 (by decide) (fun c_3 => ?_) (fun c_3 => ?_)
      · -- T of pc 45
        exact absurd rfl c_3
      · -- F of pc 45
        refine lv_iconst (v := 1) hx hb dX1_commit_48 (by decide) ?_
        refine lv_goto (tgt := 53) hx hb dX1_commit_49 (by decide) ?_
        refine va_put (ci := 1) (v := .int 1) (ty := .boolean) (C := RX1) (T := TX1) (N := 10) hx hb hts (by decide +kernel) tyX1 tyX1_ok nmX1 hown hK hP hD hS 0 rfl rfl 5 (by decide) (hts (.fieldLink RX1 30 "CommitLogModel" "off" "Z") (by decide +kernel)) (fun _ h9 => h9) rfl (by decide +kernel) rfl rfl (Nat.le_of_ble_eq_true rfl) dX1_commit_53 (fun H locs hP hD hS => ?_)
        have hP : va_P D vwCl [(h0, .inr (1, [.ref a1, .ref a2, .ref a3, .ref a4, .ref a5, .int 1, .int (bI mk), .int (nI (cnt dz 24)), .int (lfI (some 0)), .int (nI sh)])), (a1, .inl (k1, 384, .inl gw)), (a2, .inl (k2, 384, .inl gd)), (a3, .inl (k3, 384, .inl gl)), (a4, .inl (k4, 24, .inl (fun j => bI (dz j)))), (a5, .inl (k5, 24, .inl (fun j => bI (lg j))))] H := hP
        have hD : va_D _ [(h0, .inr (1, [.ref a1, .ref a2, .ref a3, .ref a4, .ref a5, .int 1, .int (bI mk), .int (nI (cnt dz 24)), .int (lfI (some 0)), .int (nI sh)])), (a1, .inl (k1, 384, .inl gw)), (a2, .inl (k2, 384, .inl gd)), (a3, .inl (k3, 384, .inl gl)), (a4, .inl (k4, 24, .inl (fun j => bI (dz j)))), (a5, .inl (k5, 24, .inl (fun j => bI (lg j))))] := hD
        refine lv_aload_n hx hb dX1_commit_56 rfl (lv_at hl 1 rfl) ?_
        refine va_get (ci := 1) (v := .int 1) (C := RX1) (T := TX1) (N := 10) hx hb hts (by decide +kernel) hown hK hP 0 rfl rfl 5 (by decide) (hts (.fieldLink RX1 30 "CommitLogModel" "off" "Z") (by decide +kernel)) (fun _ h9 => h9) rfl dX1_commit_57 ?_
        refine lv_if_eq (tgt := 75) hx hb dX1_commit_60 (by decide) (fun c_4 => ?_) (fun c_4 => ?_)
        · -- T of pc 60
          exact absurd c_4 (by decide)
        · -- F of pc 60
          refine lv_aload_n hx hb dX1_commit_63 rfl (lv_at hl 1 rfl) ?_
          refine va_get (ci := 1) (v := .int (nI sh)) (C := RX1) (T := TX1) (N := 10) hx hb hts (by decide +kernel) hown hK hP 0 rfl rfl 9 (by decide) (hts (.fieldLink RX1 56 "CommitLogModel" "share" "I") (by decide +kernel)) (fun _ h9 => h9) rfl dX1_commit_64 ?_
          refine lv_sipush (v := 500) hx hb dX1_commit_67 (by decide) ?_
          refine lv_icmp_ge (tgt := 75) hx hb dX1_commit_70 (by decide) (fun c_5 => ?_) (fun c_5 => ?_)
          · -- T of pc 70
            exact absurd c_5 (show ¬ nI 500 ≤ nI sh from nI_ge h5 (by decide))
          · -- F of pc 70
            refine lv_iconst (v := 0) hx hb dX1_commit_73 (by decide) ?_
            exact hret _ _ _ _ _ hP hD hS rfl dX1_commit_74
  · -- F of pc 4
    exact absurd (by decide) c_1
set_option maxHeartbeats 4000000 in
set_option maxRecDepth 100000 in
theorem c1_commit_mid (l : Launch) (D : va_G) (h0 a1 a2 a3 a4 a5 : Nat) (k1 k2 k3 k4 k5 : ClassId) (gw gd gl : Nat → Int32) (dz lg : Nat → Bool) (mk : Bool) (la : Nat) (sh : Nat) (hsh : sh < 1000) (h5 : 500 ≤ sh) : ct_i l yX1_commit wsX1_commit ({ frames := 2, cells := 0, slots := 0, locals := 46 }) D vwCl (MT k1 k2 k3 k4 k5) [.ref h0] (MW h0 a1 a2 a3 a4 a5 k1 k2 k3 k4 k5 gw gd gl dz lg false mk la (some 1) sh) (MW h0 a1 a2 a3 a4 a5 k1 k2 k3 k4 k5 gw (lyK (ntK gw dz gl 24) (lgK dz lg 24) ((cnt dz 24) * (sh - 500) / 500) gd 24) (ntK gw dz gl 24) (clr dz 24) (lgK dz lg 24) true true (cnt dz 24) (some 0) sh) (bI false) := by
  have hc := cnt_le dz 24
  have hm2 : (cnt dz 24) * (sh - 500) ≤ 24 * 1000 := sh_mul hc (by omega)
  refine ct_i.of (cc := cX1_commit) (maxL := 3) (ty := .boolean) (by decide) rfl (Nat.le_of_ble_eq_true rfl) (nb_bI _) ?_
  intro p e s m args below meth c ls A Q hx hb hml hts hown hK hP hD hA hS hl hret
  have hown : s.vm.findClass RX1 = some m.cls := hown
  have hl : lv_has ls 3 [(0, .ref h0)] := hl
  have hP : va_P D vwCl [(h0, .inr (1, [.ref a1, .ref a2, .ref a3, .ref a4, .ref a5, .int 0, .int (bI mk), .int (nI la), .int (lfI (some 1)), .int (nI sh)])), (a1, .inl (k1, 384, .inl gw)), (a2, .inl (k2, 384, .inl gd)), (a3, .inl (k3, 384, .inl gl)), (a4, .inl (k4, 24, .inl (fun j => bI (dz j)))), (a5, .inl (k5, 24, .inl (fun j => bI (lg j))))] s.heap := hP
  have hD : va_D A [(h0, .inr (1, [.ref a1, .ref a2, .ref a3, .ref a4, .ref a5, .int 0, .int (bI mk), .int (nI la), .int (lfI (some 1)), .int (nI sh)])), (a1, .inl (k1, 384, .inl gw)), (a2, .inl (k2, 384, .inl gd)), (a3, .inl (k3, 384, .inl gl)), (a4, .inl (k4, 24, .inl (fun j => bI (dz j)))), (a5, .inl (k5, 24, .inl (fun j => bI (lg j))))] := hD
  refine lv_aload_n hx hb dX1_commit_0 rfl (lv_at hl 0 rfl) ?_
  refine va_get (ci := 1) (v := .int 0) (C := RX1) (T := TX1) (N := 10) hx hb hts (by decide +kernel) hown hK hP 0 rfl rfl 5 (by decide) (hts (.fieldLink RX1 30 "CommitLogModel" "off" "Z") (by decide +kernel)) (fun _ h9 => h9) rfl dX1_commit_1 ?_
  refine lv_if_eq (tgt := 9) hx hb dX1_commit_4 (by decide) (fun c_1 => ?_) (fun c_1 => ?_)
  · -- T of pc 4
    refine lv_aload_n hx hb dX1_commit_9 rfl (lv_at hl 0 rfl) ?_
    refine ct_Vi (As := []) (rest := []) (wr := []) (wn := [(h0, .inr (1, [.ref a1, .ref a2, .ref a3, .ref a4, .ref a5, .int 0, .int (bI mk), .int (nI la), .int (lfI (some 1)), .int (nI sh)])), (a1, .inl (k1, 384, .inl gw)), (a2, .inl (k2, 384, .inl gd)), (a3, .inl (k3, 384, .inl gl)), (a4, .inl (k4, 24, .inl (fun j => bI (dz j)))), (a5, .inl (k5, 24, .inl (fun j => bI (lg j))))]) ⟨hx, hb, hml, hown, hts⟩ (c1_many l D h0 a1 a2 a3 a4 a5 k1 k2 k3 k4 k5 gw gd gl dz lg false mk la (some 1) sh) (cwV 0 hts gX1_commit_X1_many rfl rfl rfl (by decide +kernel) ⟨Nat.le_of_ble_eq_true rfl, Nat.le_of_ble_eq_true rfl⟩) hK hP hD hS hA [0, 1, 2, 3, 4, 5] [] [0, 1, 2, 3, 4] [0, 1, 2, 3, 4, 5] rfl rfl (by decide) rfl (by decide) (by decide) rfl (by decide) 1 rfl 0 rfl rfl hl.1 rfl (Nat.le_of_ble_eq_true rfl) dX1_commit_10 ⟨Nat.zero_le _, Nat.zero_le _⟩ (fun H locs hP hD hS => ?_)
    refine lv_istore_n (lv' := [(1, .int (nI (cnt dz 24))), (0, .ref h0)]) hx hb dX1_commit_13 rfl hl (by decide) rfl (fun ls hl => ?_)
    refine lv_aload_n hx hb dX1_commit_14 rfl (lv_at hl 1 rfl) ?_
    refine lv_iload_n hx hb dX1_commit_15 rfl (lv_at hl 0 rfl) ?_
    refine va_put (ci := 1) (v := .int (nI (cnt dz 24))) (ty := .int) (C := RX1) (T := TX1) (N := 10) hx hb hts (by decide +kernel) tyX1 tyX1_ok nmX1 hown hK hP hD hS 0 rfl rfl 7 (by decide) (hts (.fieldLink RX1 49 "CommitLogModel" "latest" "I") (by decide +kernel)) (fun _ h9 => h9) rfl (by decide +kernel) rfl rfl (Nat.le_of_ble_eq_true rfl) dX1_commit_16 (fun H locs hP hD hS => ?_)
    have hP : va_P D vwCl [(h0, .inr (1, [.ref a1, .ref a2, .ref a3, .ref a4, .ref a5, .int 0, .int (bI mk), .int (nI (cnt dz 24)), .int (lfI (some 1)), .int (nI sh)])), (a1, .inl (k1, 384, .inl gw)), (a2, .inl (k2, 384, .inl gd)), (a3, .inl (k3, 384, .inl gl)), (a4, .inl (k4, 24, .inl (fun j => bI (dz j)))), (a5, .inl (k5, 24, .inl (fun j => bI (lg j))))] H := hP
    have hD : va_D _ [(h0, .inr (1, [.ref a1, .ref a2, .ref a3, .ref a4, .ref a5, .int 0, .int (bI mk), .int (nI (cnt dz 24)), .int (lfI (some 1)), .int (nI sh)])), (a1, .inl (k1, 384, .inl gw)), (a2, .inl (k2, 384, .inl gd)), (a3, .inl (k3, 384, .inl gl)), (a4, .inl (k4, 24, .inl (fun j => bI (dz j)))), (a5, .inl (k5, 24, .inl (fun j => bI (lg j))))] := hD
    refine lv_aload_n hx hb dX1_commit_19 rfl (lv_at hl 1 rfl) ?_
    refine lv_aload_n hx hb dX1_commit_20 rfl (lv_at hl 1 rfl) ?_
    refine va_get (ci := 1) (v := .int (lfI (some 1))) (C := RX1) (T := TX1) (N := 10) hx hb hts (by decide +kernel) hown hK hP 0 rfl rfl 8 (by decide) (hts (.fieldLink RX1 53 "CommitLogModel" "left" "I") (by decide +kernel)) (fun _ h9 => h9) rfl dX1_commit_21 ?_
    refine lv_if_le (tgt := 36) hx hb dX1_commit_24 (by decide) (fun c_2 => ?_) (fun c_2 => ?_)
    · -- T of pc 24
      exact absurd c_2 (by decide)
    · -- F of pc 24
      refine lv_aload_n hx hb dX1_commit_27 rfl (lv_at hl 1 rfl) ?_
      refine va_get (ci := 1) (v := .int (lfI (some 1))) (C := RX1) (T := TX1) (N := 10) hx hb hts (by decide +kernel) hown hK hP 0 rfl rfl 8 (by decide) (hts (.fieldLink RX1 53 "CommitLogModel" "left" "I") (by decide +kernel)) (fun _ h9 => h9) rfl dX1_commit_28 ?_
      refine lv_iconst (v := 1) hx hb dX1_commit_31 (by decide) ?_
      refine lv_isub hx hb dX1_commit_32 ?_
      refine tp_as (z := lfI (some 0)) rfl ?_
      refine lv_goto (tgt := 37) hx hb dX1_commit_33 (by decide) ?_
      refine va_put (ci := 1) (v := .int (lfI (some 0))) (ty := .int) (C := RX1) (T := TX1) (N := 10) hx hb hts (by decide +kernel) tyX1 tyX1_ok nmX1 hown hK hP hD hS 0 rfl rfl 8 (by decide) (hts (.fieldLink RX1 53 "CommitLogModel" "left" "I") (by decide +kernel)) (fun _ h9 => h9) rfl (by decide +kernel) rfl rfl (Nat.le_of_ble_eq_true rfl) dX1_commit_37 (fun H locs hP hD hS => ?_)
      have hP : va_P D vwCl [(h0, .inr (1, [.ref a1, .ref a2, .ref a3, .ref a4, .ref a5, .int 0, .int (bI mk), .int (nI (cnt dz 24)), .int (lfI (some 0)), .int (nI sh)])), (a1, .inl (k1, 384, .inl gw)), (a2, .inl (k2, 384, .inl gd)), (a3, .inl (k3, 384, .inl gl)), (a4, .inl (k4, 24, .inl (fun j => bI (dz j)))), (a5, .inl (k5, 24, .inl (fun j => bI (lg j))))] H := hP
      have hD : va_D _ [(h0, .inr (1, [.ref a1, .ref a2, .ref a3, .ref a4, .ref a5, .int 0, .int (bI mk), .int (nI (cnt dz 24)), .int (lfI (some 0)), .int (nI sh)])), (a1, .inl (k1, 384, .inl gw)), (a2, .inl (k2, 384, .inl gd)), (a3, .inl (k3, 384, .inl gl)), (a4, .inl (k4, 24, .inl (fun j => bI (dz j)))), (a5, .inl (k5, 24, .inl (fun j => bI (lg j))))] := hD
      refine lv_aload_n hx hb dX1_commit_40 rfl (lv_at hl 1 rfl) ?_
      refine lv_aload_n hx hb dX1_commit_41 rfl (lv_at hl 1 rfl) ?_
      refine va_get (ci := 1) (v := .int (lfI (some 0))) (C := RX1) (T := TX1) (N := 10) hx hb hts (by decide +kernel) hown hK hP 0 rfl rfl 8 (by decide) (hts (.fieldLink RX1 53 "CommitLogModel" "left" "I") (by decide +kernel)) (fun _ h9 => h9) rfl dX1_commit_42 ?_
      refine lv_if_ne (tgt := 52) hx hb dX1_commit_45 (by decide) (fun c_3 => ?_) (fun c_3 => ?_)
      · -- T of pc 45
        exact absurd rfl c_3
      · -- F of pc 45
        refine lv_iconst (v := 1) hx hb dX1_commit_48 (by decide) ?_
        refine lv_goto (tgt := 53) hx hb dX1_commit_49 (by decide) ?_
        refine va_put (ci := 1) (v := .int 1) (ty := .boolean) (C := RX1) (T := TX1) (N := 10) hx hb hts (by decide +kernel) tyX1 tyX1_ok nmX1 hown hK hP hD hS 0 rfl rfl 5 (by decide) (hts (.fieldLink RX1 30 "CommitLogModel" "off" "Z") (by decide +kernel)) (fun _ h9 => h9) rfl (by decide +kernel) rfl rfl (Nat.le_of_ble_eq_true rfl) dX1_commit_53 (fun H locs hP hD hS => ?_)
        have hP : va_P D vwCl [(h0, .inr (1, [.ref a1, .ref a2, .ref a3, .ref a4, .ref a5, .int 1, .int (bI mk), .int (nI (cnt dz 24)), .int (lfI (some 0)), .int (nI sh)])), (a1, .inl (k1, 384, .inl gw)), (a2, .inl (k2, 384, .inl gd)), (a3, .inl (k3, 384, .inl gl)), (a4, .inl (k4, 24, .inl (fun j => bI (dz j)))), (a5, .inl (k5, 24, .inl (fun j => bI (lg j))))] H := hP
        have hD : va_D _ [(h0, .inr (1, [.ref a1, .ref a2, .ref a3, .ref a4, .ref a5, .int 1, .int (bI mk), .int (nI (cnt dz 24)), .int (lfI (some 0)), .int (nI sh)])), (a1, .inl (k1, 384, .inl gw)), (a2, .inl (k2, 384, .inl gd)), (a3, .inl (k3, 384, .inl gl)), (a4, .inl (k4, 24, .inl (fun j => bI (dz j)))), (a5, .inl (k5, 24, .inl (fun j => bI (lg j))))] := hD
        refine lv_aload_n hx hb dX1_commit_56 rfl (lv_at hl 1 rfl) ?_
        refine va_get (ci := 1) (v := .int 1) (C := RX1) (T := TX1) (N := 10) hx hb hts (by decide +kernel) hown hK hP 0 rfl rfl 5 (by decide) (hts (.fieldLink RX1 30 "CommitLogModel" "off" "Z") (by decide +kernel)) (fun _ h9 => h9) rfl dX1_commit_57 ?_
        refine lv_if_eq (tgt := 75) hx hb dX1_commit_60 (by decide) (fun c_4 => ?_) (fun c_4 => ?_)
        · -- T of pc 60
          exact absurd c_4 (by decide)
        · -- F of pc 60
          refine lv_aload_n hx hb dX1_commit_63 rfl (lv_at hl 1 rfl) ?_
          refine va_get (ci := 1) (v := .int (nI sh)) (C := RX1) (T := TX1) (N := 10) hx hb hts (by decide +kernel) hown hK hP 0 rfl rfl 9 (by decide) (hts (.fieldLink RX1 56 "CommitLogModel" "share" "I") (by decide +kernel)) (fun _ h9 => h9) rfl dX1_commit_64 ?_
          refine lv_sipush (v := 500) hx hb dX1_commit_67 (by decide) ?_
          refine lv_icmp_ge (tgt := 75) hx hb dX1_commit_70 (by decide) (fun c_5 => ?_) (fun c_5 => ?_)
          · -- T of pc 70
            refine lv_aload_n hx hb dX1_commit_75 rfl (lv_at hl 1 rfl) ?_
            refine ct_Vv (As := []) (rest := []) (wr := []) (wn := [(h0, .inr (1, [.ref a1, .ref a2, .ref a3, .ref a4, .ref a5, .int 1, .int 1, .int (nI (cnt dz 24)), .int (lfI (some 0)), .int (nI sh)])), (a1, .inl (k1, 384, .inl gw)), (a2, .inl (k2, 384, .inl gd)), (a3, .inl (k3, 384, .inl (ntK gw dz gl 24))), (a4, .inl (k4, 24, .inl (fun j => bI (dz j)))), (a5, .inl (k5, 24, .inl (fun j => bI ((lgK dz lg 24) j))))]) ⟨hx, hb, hml, hown, hts⟩ (c1_note l D h0 a1 a2 a3 a4 a5 k1 k2 k3 k4 k5 gw gd gl dz lg true mk (cnt dz 24) (some 0) sh) (cwV 0 hts gX1_commit_X1_note rfl rfl rfl (by decide +kernel) ⟨Nat.le_of_ble_eq_true rfl, Nat.le_of_ble_eq_true rfl⟩) hK hP hD hS hA [0, 1, 2, 3, 4, 5] [] [0, 1, 2, 3, 4] [0, 1, 2, 3, 4, 5] rfl rfl (by decide) rfl (by decide) (by decide) rfl (by decide) 1 rfl 0 rfl rfl hl.1 rfl (Nat.le_of_ble_eq_true rfl) dX1_commit_76 ⟨Nat.zero_le _, Nat.zero_le _⟩ (fun H locs hP hD hS => ?_)
            refine lv_aload_n hx hb dX1_commit_79 rfl (lv_at hl 1 rfl) ?_
            refine lv_aload_n hx hb dX1_commit_80 rfl (lv_at hl 1 rfl) ?_
            refine va_get (ci := 1) (v := .int 1) (C := RX1) (T := TX1) (N := 10) hx hb hts (by decide +kernel) hown hK hP 0 rfl rfl 5 (by decide) (hts (.fieldLink RX1 30 "CommitLogModel" "off" "Z") (by decide +kernel)) (fun _ h9 => h9) rfl dX1_commit_81 ?_
            refine lv_if_eq (tgt := 104) hx hb dX1_commit_84 (by decide) (fun c_6 => ?_) (fun c_6 => ?_)
            · -- T of pc 84
              exact absurd c_6 (by decide)
            · -- F of pc 84
              refine lv_iload_n hx hb dX1_commit_87 rfl (lv_at hl 0 rfl) ?_
              refine lv_aload_n hx hb dX1_commit_88 rfl (lv_at hl 1 rfl) ?_
              refine va_get (ci := 1) (v := .int (nI sh)) (C := RX1) (T := TX1) (N := 10) hx hb hts (by decide +kernel) hown hK hP 0 rfl rfl 9 (by decide) (hts (.fieldLink RX1 56 "CommitLogModel" "share" "I") (by decide +kernel)) (fun _ h9 => h9) rfl dX1_commit_89 ?_
              refine lv_sipush (v := 500) hx hb dX1_commit_92 (by decide) ?_
              refine lv_isub hx hb dX1_commit_95 ?_
              refine tp_as (z := nI (sh - 500)) (pk_sub (b := 500) h5) ?_
              refine lv_imul hx hb dX1_commit_96 ?_
              refine tp_as (z := nI ((cnt dz 24) * (sh - 500))) (pk_mul _ _) ?_
              refine lv_sipush (v := 500) hx hb dX1_commit_97 (by decide) ?_
              refine lv_idiv hx hb dX1_commit_100 (by decide) ?_
              refine tp_as (z := nI ((cnt dz 24) * (sh - 500) / 500)) (pk_div (d := 500) (by omega) (by decide) (by decide)) ?_
              refine lv_goto (tgt := 105) hx hb dX1_commit_101 (by decide) ?_
              refine ct_Vv (As := [.int (nI ((cnt dz 24) * (sh - 500) / 500))]) (rest := []) (wr := []) (wn := [(h0, .inr (1, [.ref a1, .ref a2, .ref a3, .ref a4, .ref a5, .int 1, .int 1, .int (nI (cnt dz 24)), .int (lfI (some 0)), .int (nI sh)])), (a1, .inl (k1, 384, .inl gw)), (a2, .inl (k2, 384, .inl (lyK (ntK gw dz gl 24) (lgK dz lg 24) ((cnt dz 24) * (sh - 500) / 500) gd 24))), (a3, .inl (k3, 384, .inl (ntK gw dz gl 24))), (a4, .inl (k4, 24, .inl (fun j => bI (dz j)))), (a5, .inl (k5, 24, .inl (fun j => bI ((lgK dz lg 24) j))))]) ⟨hx, hb, hml, hown, hts⟩ (c1_lay l D h0 a1 a2 a3 a4 a5 k1 k2 k3 k4 k5 gw gd (ntK gw dz gl 24) dz (lgK dz lg 24) true true (cnt dz 24) (some 0) sh ((cnt dz 24) * (sh - 500) / 500) (sh_div hc (by omega))) (cwV 1 hts gX1_commit_X1_lay rfl rfl rfl (by decide +kernel) ⟨Nat.le_of_ble_eq_true rfl, Nat.le_of_ble_eq_true rfl⟩) hK hP hD hS hA [0, 1, 2, 3, 4, 5] [] [0, 1, 2, 3, 4] [0, 1, 2, 3, 4, 5] rfl rfl (by decide) rfl (by decide) (by decide) rfl (by decide) 1 rfl 0 rfl rfl hl.1 rfl (Nat.le_of_ble_eq_true rfl) dX1_commit_105 ⟨Nat.zero_le _, Nat.zero_le _⟩ (fun H locs hP hD hS => ?_)
              refine lv_aload_n hx hb dX1_commit_108 rfl (lv_at hl 1 rfl) ?_
              refine lv_aload_n hx hb dX1_commit_109 rfl (lv_at hl 1 rfl) ?_
              refine va_get (ci := 1) (v := .int 1) (C := RX1) (T := TX1) (N := 10) hx hb hts (by decide +kernel) hown hK hP 0 rfl rfl 5 (by decide) (hts (.fieldLink RX1 30 "CommitLogModel" "off" "Z") (by decide +kernel)) (fun _ h9 => h9) rfl dX1_commit_110 ?_
              refine va_put (ci := 1) (v := .int 1) (ty := .boolean) (C := RX1) (T := TX1) (N := 10) hx hb hts (by decide +kernel) tyX1 tyX1_ok nmX1 hown hK hP hD hS 0 rfl rfl 6 (by decide) (hts (.fieldLink RX1 42 "CommitLogModel" "mark" "Z") (by decide +kernel)) (fun _ h9 => h9) rfl (by decide +kernel) rfl rfl (Nat.le_of_ble_eq_true rfl) dX1_commit_113 (fun H locs hP hD hS => ?_)
              have hP : va_P D vwCl [(h0, .inr (1, [.ref a1, .ref a2, .ref a3, .ref a4, .ref a5, .int 1, .int 1, .int (nI (cnt dz 24)), .int (lfI (some 0)), .int (nI sh)])), (a1, .inl (k1, 384, .inl gw)), (a2, .inl (k2, 384, .inl (lyK (ntK gw dz gl 24) (lgK dz lg 24) ((cnt dz 24) * (sh - 500) / 500) gd 24))), (a3, .inl (k3, 384, .inl (ntK gw dz gl 24))), (a4, .inl (k4, 24, .inl (fun j => bI (dz j)))), (a5, .inl (k5, 24, .inl (fun j => bI ((lgK dz lg 24) j))))] H := hP
              have hD : va_D _ [(h0, .inr (1, [.ref a1, .ref a2, .ref a3, .ref a4, .ref a5, .int 1, .int 1, .int (nI (cnt dz 24)), .int (lfI (some 0)), .int (nI sh)])), (a1, .inl (k1, 384, .inl gw)), (a2, .inl (k2, 384, .inl (lyK (ntK gw dz gl 24) (lgK dz lg 24) ((cnt dz 24) * (sh - 500) / 500) gd 24))), (a3, .inl (k3, 384, .inl (ntK gw dz gl 24))), (a4, .inl (k4, 24, .inl (fun j => bI (dz j)))), (a5, .inl (k5, 24, .inl (fun j => bI ((lgK dz lg 24) j))))] := hD
              refine lv_iconst (v := 0) hx hb dX1_commit_116 (by decide) ?_
              refine lv_istore_n (lv' := [(2, .int 0), (1, .int (nI (cnt dz 24))), (0, .ref h0)]) hx hb dX1_commit_117 rfl hl (by decide) rfl (fun ls hl => ?_)
              have loop : ∀ (n k : Nat), k + n = 24 → ∀ (ls : Array Slot) (H : Heap) (locs : List Loc), lv_has ls 3 [(2, .int (nI k)), (1, .int (nI (cnt dz 24))), (0, .ref h0)] → va_P D vwCl [(h0, .inr (1, [.ref a1, .ref a2, .ref a3, .ref a4, .ref a5, .int 1, .int 1, .int (nI (cnt dz 24)), .int (lfI (some 0)), .int (nI sh)])), (a1, .inl (k1, 384, .inl gw)), (a2, .inl (k2, 384, .inl (lyK (ntK gw dz gl 24) (lgK dz lg 24) ((cnt dz 24) * (sh - 500) / 500) gd 24))), (a3, .inl (k3, 384, .inl (ntK gw dz gl 24))), (a4, .inl (k4, 24, .inl (fun j => bI (clr dz k j)))), (a5, .inl (k5, 24, .inl (fun j => bI ((lgK dz lg 24) j))))] H → va_D A [(h0, .inr (1, [.ref a1, .ref a2, .ref a3, .ref a4, .ref a5, .int 1, .int 1, .int (nI (cnt dz 24)), .int (lfI (some 0)), .int (nI sh)])), (a1, .inl (k1, 384, .inl gw)), (a2, .inl (k2, 384, .inl (lyK (ntK gw dz gl 24) (lgK dz lg 24) ((cnt dz 24) * (sh - 500) / 500) gd 24))), (a3, .inl (k3, 384, .inl (ntK gw dz gl 24))), (a4, .inl (k4, 24, .inl (fun j => bI (clr dz k j)))), (a5, .inl (k5, 24, .inl (fun j => bI ((lgK dz lg 24) j))))] → va_S A s.heap H locs → W p l e ({ frames := 2, cells := 0, slots := 0, locals := 46 }) s m args below meth c H locs 0 0 Q (F0 m 118 ls []) := by
                intro n
                induction n with
                | zero =>
                  intro k hk ls H locs hl hP hD hS
                  obtain rfl : k = 24 := by omega
                  refine lv_iload_n hx hb dX1_commit_118 rfl (lv_at hl 0 rfl) ?_
                  refine lv_bipush (v := 24) hx hb dX1_commit_119 (by decide) ?_
                  refine lv_icmp_ge (tgt := 137) hx hb dX1_commit_121 (by decide) (fun c_7 => ?_) (fun c_7 => ?_)
                  · -- T of pc 121
                    refine lv_aload_n hx hb dX1_commit_137 rfl (lv_at hl 2 rfl) ?_
                    refine va_get (ci := 1) (v := .int 1) (C := RX1) (T := TX1) (N := 10) hx hb hts (by decide +kernel) hown hK hP 0 rfl rfl 5 (by decide) (hts (.fieldLink RX1 30 "CommitLogModel" "off" "Z") (by decide +kernel)) (fun _ h9 => h9) rfl dX1_commit_138 ?_
                    refine lv_if_ne (tgt := 148) hx hb dX1_commit_141 (by decide) (fun c_8 => ?_) (fun c_8 => ?_)
                    · -- T of pc 141
                      refine lv_iconst (v := 0) hx hb dX1_commit_148 (by decide) ?_
                      exact hret _ _ _ _ _ hP hD hS rfl dX1_commit_149
                    · -- F of pc 141
                      exact absurd c_8 (by decide)
                  · -- F of pc 121
                    exact absurd (by decide) c_7
                | succ n ih =>
                  intro k hk ls H locs hl hP hD hS
                  refine lv_iload_n hx hb dX1_commit_118 rfl (lv_at hl 0 rfl) ?_
                  refine lv_bipush (v := 24) hx hb dX1_commit_119 (by decide) ?_
                  refine lv_icmp_ge (tgt := 137) hx hb dX1_commit_121 (by decide) (fun c_9 => ?_) (fun c_9 => ?_)
                  · -- T of pc 121
                    exact absurd c_9 (show ¬ nI 24 ≤ nI k from nI_ge (by omega) (by decide))
                  · -- F of pc 121
                    refine lv_aload_n hx hb dX1_commit_124 rfl (lv_at hl 2 rfl) ?_
                    refine va_get (ci := 1) (v := .ref a4) (C := RX1) (T := TX1) (N := 10) hx hb hts (by decide +kernel) hown hK hP 0 rfl rfl 3 (by decide) (hts (.fieldLink RX1 19 "CommitLogModel" "dirty" "[Z") (by decide +kernel)) (fun _ h9 => h9) rfl dX1_commit_125 ?_
                    refine lv_iload_n hx hb dX1_commit_128 rfl (lv_at hl 0 rfl) ?_
                    refine lv_iconst (v := 0) hx hb dX1_commit_129 (by decide) ?_
                    refine va_zast hx hb hK hP hD hS 4 3 rfl rfl (vp_in_nI (by omega) (by decide)) dX1_commit_130 (fun H locs hP hD hS => ?_)
                    rw [cl_nI (show k < 2 ^ 31 by omega), show vp_nar .boolean 0 = bI false from rfl, up_bI, clr_s] at hP hD
                    have hP : va_P D vwCl [(h0, .inr (1, [.ref a1, .ref a2, .ref a3, .ref a4, .ref a5, .int 1, .int 1, .int (nI (cnt dz 24)), .int (lfI (some 0)), .int (nI sh)])), (a1, .inl (k1, 384, .inl gw)), (a2, .inl (k2, 384, .inl (lyK (ntK gw dz gl 24) (lgK dz lg 24) ((cnt dz 24) * (sh - 500) / 500) gd 24))), (a3, .inl (k3, 384, .inl (ntK gw dz gl 24))), (a4, .inl (k4, 24, .inl (fun j => bI (clr dz (k + 1) j)))), (a5, .inl (k5, 24, .inl (fun j => bI ((lgK dz lg 24) j))))] H := hP
                    have hD : va_D _ [(h0, .inr (1, [.ref a1, .ref a2, .ref a3, .ref a4, .ref a5, .int 1, .int 1, .int (nI (cnt dz 24)), .int (lfI (some 0)), .int (nI sh)])), (a1, .inl (k1, 384, .inl gw)), (a2, .inl (k2, 384, .inl (lyK (ntK gw dz gl 24) (lgK dz lg 24) ((cnt dz 24) * (sh - 500) / 500) gd 24))), (a3, .inl (k3, 384, .inl (ntK gw dz gl 24))), (a4, .inl (k4, 24, .inl (fun j => bI (clr dz (k + 1) j)))), (a5, .inl (k5, 24, .inl (fun j => bI ((lgK dz lg 24) j))))] := hD
                    refine lv_iinc (v := (nI (k + 1))) (lv' := [(2, .int (nI (k + 1))), (1, .int (nI (cnt dz 24))), (0, .ref h0)]) hx hb dX1_commit_131 hl (k := 0) rfl (nI_1 _) (by decide) rfl (fun ls hl => ?_)
                    refine lv_goto (tgt := 118) hx hb dX1_commit_134 (by decide) ?_
                    exact ih (k + 1) (by omega) ls H locs (lv_sub hl [0, 1, 2] rfl) hP hD hS
              exact loop 24 0 rfl ls _ _ (lv_sub hl [0, 1, 2] rfl) (by rw [clr_0]; exact hP) (by rw [clr_0]; exact hD) hS
          · -- F of pc 70
            exact absurd (show nI 500 ≤ nI sh from nI_le h5 (by omega)) c_5
  · -- F of pc 4
    exact absurd (by decide) c_1
def msd (mk : Bool) (gl : Nat → Int32) (lg : Nat → Bool) (gd : Nat → Int32) (t : Nat) : Nat → Int32 := bif mk then lyK gl lg (cnt lg 24 * t / 1000) gd 24 else gd
set_option maxHeartbeats 4000000 in
set_option maxRecDepth 100000 in
theorem c1_start_no (l : Launch) (D : va_G) (h0 a1 a2 a3 a4 a5 : Nat) (k1 k2 k3 k4 k5 : ClassId) (gw gd gl : Nat → Int32) (dz lg : Nat → Bool) (of mk : Bool) (la : Nat) (lf : Option Nat) (sh : Nat) (x : Int32) (h : of = false ∨ (x < 0 ∨ nI 1001 ≤ x)) : ct_i l yX1_start wsX1_start ({ frames := 2, cells := 0, slots := 0, locals := 46 }) D vwCl (MT k1 k2 k3 k4 k5) [.ref h0, .int x] (MW h0 a1 a2 a3 a4 a5 k1 k2 k3 k4 k5 gw gd gl dz lg of mk la lf sh) (MW h0 a1 a2 a3 a4 a5 k1 k2 k3 k4 k5 gw gd gl dz lg of mk la lf sh) (bI false) := by
  cases of with
  | false =>
    refine ct_i.of (cc := cX1_start) (maxL := 2) (ty := .boolean) (by decide) rfl (Nat.le_of_ble_eq_true rfl) (nb_bI _) ?_
    intro p e s m args below meth c ls A Q hx hb hml hts hown hK hP hD hA hS hl hret
    have hown : s.vm.findClass RX1 = some m.cls := hown
    have hl : lv_has ls 2 [(0, .ref h0), (1, .int x)] := hl
    have hP : va_P D vwCl [(h0, .inr (1, [.ref a1, .ref a2, .ref a3, .ref a4, .ref a5, .int 0, .int (bI mk), .int (nI la), .int (lfI lf), .int (nI sh)])), (a1, .inl (k1, 384, .inl gw)), (a2, .inl (k2, 384, .inl gd)), (a3, .inl (k3, 384, .inl gl)), (a4, .inl (k4, 24, .inl (fun j => bI (dz j)))), (a5, .inl (k5, 24, .inl (fun j => bI (lg j))))] s.heap := hP
    have hD : va_D A [(h0, .inr (1, [.ref a1, .ref a2, .ref a3, .ref a4, .ref a5, .int 0, .int (bI mk), .int (nI la), .int (lfI lf), .int (nI sh)])), (a1, .inl (k1, 384, .inl gw)), (a2, .inl (k2, 384, .inl gd)), (a3, .inl (k3, 384, .inl gl)), (a4, .inl (k4, 24, .inl (fun j => bI (dz j)))), (a5, .inl (k5, 24, .inl (fun j => bI (lg j))))] := hD
    refine lv_aload_n hx hb dX1_start_0 rfl (lv_at hl 0 rfl) ?_
    refine va_get (ci := 1) (v := .int 0) (C := RX1) (T := TX1) (N := 10) hx hb hts (by decide +kernel) hown hK hP 0 rfl rfl 5 (by decide) (hts (.fieldLink RX1 30 "CommitLogModel" "off" "Z") (by decide +kernel)) (fun _ h9 => h9) rfl dX1_start_1 ?_
    refine lv_if_eq (tgt := 18) hx hb dX1_start_4 (by decide) (fun c_1 => ?_) (fun c_1 => ?_)
    · -- T of pc 4
      refine lv_iconst (v := 0) hx hb dX1_start_18 (by decide) ?_
      exact hret _ _ _ _ _ hP hD hS rfl dX1_start_19
    · -- F of pc 4
      exact absurd (by decide) c_1
  | true =>
    have h1 := h.resolve_left (by decide)
    have e1 : ix 1001 x = none := by
      rcases ix_cases 1001 (by decide) x with ⟨e, -⟩ | ⟨j, hj, rfl, -⟩
      · exact e
      · rcases h1 with h1 | h1
        · exact absurd h1 (nI_pos (by omega))
        · exact absurd h1 (nI_ge hj (by decide))
    refine ct_i.of (cc := cX1_start) (maxL := 2) (ty := .boolean) (by decide) rfl (Nat.le_of_ble_eq_true rfl) (nb_bI _) ?_
    intro p e s m args below meth c ls A Q hx hb hml hts hown hK hP hD hA hS hl hret
    have hown : s.vm.findClass RX1 = some m.cls := hown
    have hl : lv_has ls 2 [(0, .ref h0), (1, .int x)] := hl
    have hP : va_P D vwCl [(h0, .inr (1, [.ref a1, .ref a2, .ref a3, .ref a4, .ref a5, .int 1, .int (bI mk), .int (nI la), .int (lfI lf), .int (nI sh)])), (a1, .inl (k1, 384, .inl gw)), (a2, .inl (k2, 384, .inl gd)), (a3, .inl (k3, 384, .inl gl)), (a4, .inl (k4, 24, .inl (fun j => bI (dz j)))), (a5, .inl (k5, 24, .inl (fun j => bI (lg j))))] s.heap := hP
    have hD : va_D A [(h0, .inr (1, [.ref a1, .ref a2, .ref a3, .ref a4, .ref a5, .int 1, .int (bI mk), .int (nI la), .int (lfI lf), .int (nI sh)])), (a1, .inl (k1, 384, .inl gw)), (a2, .inl (k2, 384, .inl gd)), (a3, .inl (k3, 384, .inl gl)), (a4, .inl (k4, 24, .inl (fun j => bI (dz j)))), (a5, .inl (k5, 24, .inl (fun j => bI (lg j))))] := hD
    refine lv_aload_n hx hb dX1_start_0 rfl (lv_at hl 0 rfl) ?_
    refine va_get (ci := 1) (v := .int 1) (C := RX1) (T := TX1) (N := 10) hx hb hts (by decide +kernel) hown hK hP 0 rfl rfl 5 (by decide) (hts (.fieldLink RX1 30 "CommitLogModel" "off" "Z") (by decide +kernel)) (fun _ h9 => h9) rfl dX1_start_1 ?_
    refine lv_if_eq (tgt := 18) hx hb dX1_start_4 (by decide) (fun c_1 => ?_) (fun c_1 => ?_)
    · -- T of pc 4
      exact absurd c_1 (by decide)
    · -- F of pc 4
      refine lv_iload_n hx hb dX1_start_7 rfl (lv_at hl 1 rfl) ?_
      refine lv_iconst (v := 0) hx hb dX1_start_8 (by decide) ?_
      refine lv_sipush (v := 1000) hx hb dX1_start_9 (by decide) ?_
      refine ct_Si (As := [.int x, .int 0, .int 1000]) (rest := []) (wr := [(h0, .inr (1, [.ref a1, .ref a2, .ref a3, .ref a4, .ref a5, .int 1, .int (bI mk), .int (nI la), .int (lfI lf), .int (nI sh)])), (a1, .inl (k1, 384, .inl gw)), (a2, .inl (k2, 384, .inl gd)), (a3, .inl (k3, 384, .inl gl)), (a4, .inl (k4, 24, .inl (fun j => bI (dz j)))), (a5, .inl (k5, 24, .inl (fun j => bI (lg j))))]) (wn := [(h0, .inr (1, [.ref a1, .ref a2, .ref a3, .ref a4, .ref a5, .int 1, .int (bI mk), .int (nI la), .int (lfI lf), .int (nI sh)])), (a1, .inl (k1, 384, .inl gw)), (a2, .inl (k2, 384, .inl gd)), (a3, .inl (k3, 384, .inl gl)), (a4, .inl (k4, 24, .inl (fun j => bI (dz j)))), (a5, .inl (k5, 24, .inl (fun j => bI (lg j))))]) ⟨hx, hb, hml, hown, hts⟩ (c1_in l D x 0 1000) (va_cwS 3 hts gX1_start_X1_in rfl rfl rfl (by decide +kernel) ⟨Nat.le_of_ble_eq_true rfl, Nat.le_of_ble_eq_true rfl⟩) hK hP hD hS hA [] [0, 1, 2, 3, 4, 5] [] [0, 1, 2, 3, 4, 5] rfl rfl (by decide) rfl (by decide) (by decide) rfl (by decide) rfl hl.1 rfl (Nat.le_of_ble_eq_true rfl) dX1_start_12 ⟨Nat.zero_le _, Nat.zero_le _⟩ (fun H locs hP hD hS => ?_)
      refine tp_as (z := 0) (by rw [inR_ix 1001 (by decide) 1000 rfl _, e1]; rfl) ?_
      refine lv_if_ne (tgt := 20) hx hb dX1_start_15 (by decide) (fun c_2 => ?_) (fun c_2 => ?_)
      · -- T of pc 15
        exact absurd (by decide) c_2
      · -- F of pc 15
        refine lv_iconst (v := 0) hx hb dX1_start_18 (by decide) ?_
        exact hret _ _ _ _ _ hP hD hS rfl dX1_start_19
set_option maxHeartbeats 4000000 in
set_option maxRecDepth 100000 in
theorem c1_start_cut (l : Launch) (D : va_G) (h0 a1 a2 a3 a4 a5 : Nat) (k1 k2 k3 k4 k5 : ClassId) (gw gd gl : Nat → Int32) (dz lg : Nat → Bool) (mk : Bool) (la : Nat) (lf : Option Nat) (sh : Nat) (t : Nat) (ht : t < 1000) : ct_i l yX1_start wsX1_start ({ frames := 2, cells := 0, slots := 0, locals := 46 }) D vwCl (MT k1 k2 k3 k4 k5) [.ref h0, .int (nI t)] (MW h0 a1 a2 a3 a4 a5 k1 k2 k3 k4 k5 gw gd gl dz lg true mk la lf sh) (MW h0 a1 a2 a3 a4 a5 k1 k2 k3 k4 k5 gw (msd mk gl lg gd t) gl dz lg true mk la lf sh) (bI false) := by
  have hc := cnt_le lg 24
  have hm := sh_mul (s := t) (m := 1000) hc (by omega)
  have e1 : ix 1001 (nI t) = some t := ix_nI (by omega) (by decide)
  cases mk with
  | false =>
    refine ct_i.of (cc := cX1_start) (maxL := 2) (ty := .boolean) (by decide) rfl (Nat.le_of_ble_eq_true rfl) (nb_bI _) ?_
    intro p e s m args below meth c ls A Q hx hb hml hts hown hK hP hD hA hS hl hret
    have hown : s.vm.findClass RX1 = some m.cls := hown
    have hl : lv_has ls 2 [(0, .ref h0), (1, .int (nI t))] := hl
    have hP : va_P D vwCl [(h0, .inr (1, [.ref a1, .ref a2, .ref a3, .ref a4, .ref a5, .int 1, .int 0, .int (nI la), .int (lfI lf), .int (nI sh)])), (a1, .inl (k1, 384, .inl gw)), (a2, .inl (k2, 384, .inl gd)), (a3, .inl (k3, 384, .inl gl)), (a4, .inl (k4, 24, .inl (fun j => bI (dz j)))), (a5, .inl (k5, 24, .inl (fun j => bI (lg j))))] s.heap := hP
    have hD : va_D A [(h0, .inr (1, [.ref a1, .ref a2, .ref a3, .ref a4, .ref a5, .int 1, .int 0, .int (nI la), .int (lfI lf), .int (nI sh)])), (a1, .inl (k1, 384, .inl gw)), (a2, .inl (k2, 384, .inl gd)), (a3, .inl (k3, 384, .inl gl)), (a4, .inl (k4, 24, .inl (fun j => bI (dz j)))), (a5, .inl (k5, 24, .inl (fun j => bI (lg j))))] := hD
    refine lv_aload_n hx hb dX1_start_0 rfl (lv_at hl 0 rfl) ?_
    refine va_get (ci := 1) (v := .int 1) (C := RX1) (T := TX1) (N := 10) hx hb hts (by decide +kernel) hown hK hP 0 rfl rfl 5 (by decide) (hts (.fieldLink RX1 30 "CommitLogModel" "off" "Z") (by decide +kernel)) (fun _ h9 => h9) rfl dX1_start_1 ?_
    refine lv_if_eq (tgt := 18) hx hb dX1_start_4 (by decide) (fun c_1 => ?_) (fun c_1 => ?_)
    · -- T of pc 4
      exact absurd c_1 (by decide)
    · -- F of pc 4
      refine lv_iload_n hx hb dX1_start_7 rfl (lv_at hl 1 rfl) ?_
      refine lv_iconst (v := 0) hx hb dX1_start_8 (by decide) ?_
      refine lv_sipush (v := 1000) hx hb dX1_start_9 (by decide) ?_
      refine ct_Si (As := [.int (nI t), .int 0, .int 1000]) (rest := []) (wr := [(h0, .inr (1, [.ref a1, .ref a2, .ref a3, .ref a4, .ref a5, .int 1, .int 0, .int (nI la), .int (lfI lf), .int (nI sh)])), (a1, .inl (k1, 384, .inl gw)), (a2, .inl (k2, 384, .inl gd)), (a3, .inl (k3, 384, .inl gl)), (a4, .inl (k4, 24, .inl (fun j => bI (dz j)))), (a5, .inl (k5, 24, .inl (fun j => bI (lg j))))]) (wn := [(h0, .inr (1, [.ref a1, .ref a2, .ref a3, .ref a4, .ref a5, .int 1, .int 0, .int (nI la), .int (lfI lf), .int (nI sh)])), (a1, .inl (k1, 384, .inl gw)), (a2, .inl (k2, 384, .inl gd)), (a3, .inl (k3, 384, .inl gl)), (a4, .inl (k4, 24, .inl (fun j => bI (dz j)))), (a5, .inl (k5, 24, .inl (fun j => bI (lg j))))]) ⟨hx, hb, hml, hown, hts⟩ (c1_in l D (nI t) 0 1000) (va_cwS 3 hts gX1_start_X1_in rfl rfl rfl (by decide +kernel) ⟨Nat.le_of_ble_eq_true rfl, Nat.le_of_ble_eq_true rfl⟩) hK hP hD hS hA [] [0, 1, 2, 3, 4, 5] [] [0, 1, 2, 3, 4, 5] rfl rfl (by decide) rfl (by decide) (by decide) rfl (by decide) rfl hl.1 rfl (Nat.le_of_ble_eq_true rfl) dX1_start_12 ⟨Nat.zero_le _, Nat.zero_le _⟩ (fun H locs hP hD hS => ?_)
      refine tp_as (z := 1) (by rw [inR_ix 1001 (by decide) 1000 rfl _, e1]; rfl) ?_
      refine lv_if_ne (tgt := 20) hx hb dX1_start_15 (by decide) (fun c_2 => ?_) (fun c_2 => ?_)
      · -- T of pc 15
        refine lv_aload_n hx hb dX1_start_20 rfl (lv_at hl 0 rfl) ?_
        refine va_get (ci := 1) (v := .int 0) (C := RX1) (T := TX1) (N := 10) hx hb hts (by decide +kernel) hown hK hP 0 rfl rfl 6 (by decide) (hts (.fieldLink RX1 42 "CommitLogModel" "mark" "Z") (by decide +kernel)) (fun _ h9 => h9) rfl dX1_start_21 ?_
        refine lv_if_eq (tgt := 41) hx hb dX1_start_24 (by decide) (fun c_3 => ?_) (fun c_3 => ?_)
        · -- T of pc 24
          refine lv_iload_n hx hb dX1_start_41 rfl (lv_at hl 1 rfl) ?_
          refine lv_sipush (v := 1000) hx hb dX1_start_42 (by decide) ?_
          refine lv_icmp_ge (tgt := 50) hx hb dX1_start_45 (by decide) (fun c_4 => ?_) (fun c_4 => ?_)
          · -- T of pc 45
            exact absurd c_4 (show ¬ nI 1000 ≤ nI t from nI_ge (by omega) (by decide))
          · -- F of pc 45
            refine lv_iconst (v := 0) hx hb dX1_start_48 (by decide) ?_
            exact hret _ _ _ _ _ hP hD hS rfl dX1_start_49
        · -- F of pc 24
          exact absurd (by decide) c_3
      · -- F of pc 15
        exact absurd c_2 (by decide)
  | true =>
    refine ct_i.of (cc := cX1_start) (maxL := 2) (ty := .boolean) (by decide) rfl (Nat.le_of_ble_eq_true rfl) (nb_bI _) ?_
    intro p e s m args below meth c ls A Q hx hb hml hts hown hK hP hD hA hS hl hret
    have hown : s.vm.findClass RX1 = some m.cls := hown
    have hl : lv_has ls 2 [(0, .ref h0), (1, .int (nI t))] := hl
    have hP : va_P D vwCl [(h0, .inr (1, [.ref a1, .ref a2, .ref a3, .ref a4, .ref a5, .int 1, .int 1, .int (nI la), .int (lfI lf), .int (nI sh)])), (a1, .inl (k1, 384, .inl gw)), (a2, .inl (k2, 384, .inl gd)), (a3, .inl (k3, 384, .inl gl)), (a4, .inl (k4, 24, .inl (fun j => bI (dz j)))), (a5, .inl (k5, 24, .inl (fun j => bI (lg j))))] s.heap := hP
    have hD : va_D A [(h0, .inr (1, [.ref a1, .ref a2, .ref a3, .ref a4, .ref a5, .int 1, .int 1, .int (nI la), .int (lfI lf), .int (nI sh)])), (a1, .inl (k1, 384, .inl gw)), (a2, .inl (k2, 384, .inl gd)), (a3, .inl (k3, 384, .inl gl)), (a4, .inl (k4, 24, .inl (fun j => bI (dz j)))), (a5, .inl (k5, 24, .inl (fun j => bI (lg j))))] := hD
    refine lv_aload_n hx hb dX1_start_0 rfl (lv_at hl 0 rfl) ?_
    refine va_get (ci := 1) (v := .int 1) (C := RX1) (T := TX1) (N := 10) hx hb hts (by decide +kernel) hown hK hP 0 rfl rfl 5 (by decide) (hts (.fieldLink RX1 30 "CommitLogModel" "off" "Z") (by decide +kernel)) (fun _ h9 => h9) rfl dX1_start_1 ?_
    refine lv_if_eq (tgt := 18) hx hb dX1_start_4 (by decide) (fun c_1 => ?_) (fun c_1 => ?_)
    · -- T of pc 4
      exact absurd c_1 (by decide)
    · -- F of pc 4
      refine lv_iload_n hx hb dX1_start_7 rfl (lv_at hl 1 rfl) ?_
      refine lv_iconst (v := 0) hx hb dX1_start_8 (by decide) ?_
      refine lv_sipush (v := 1000) hx hb dX1_start_9 (by decide) ?_
      refine ct_Si (As := [.int (nI t), .int 0, .int 1000]) (rest := []) (wr := [(h0, .inr (1, [.ref a1, .ref a2, .ref a3, .ref a4, .ref a5, .int 1, .int 1, .int (nI la), .int (lfI lf), .int (nI sh)])), (a1, .inl (k1, 384, .inl gw)), (a2, .inl (k2, 384, .inl gd)), (a3, .inl (k3, 384, .inl gl)), (a4, .inl (k4, 24, .inl (fun j => bI (dz j)))), (a5, .inl (k5, 24, .inl (fun j => bI (lg j))))]) (wn := [(h0, .inr (1, [.ref a1, .ref a2, .ref a3, .ref a4, .ref a5, .int 1, .int 1, .int (nI la), .int (lfI lf), .int (nI sh)])), (a1, .inl (k1, 384, .inl gw)), (a2, .inl (k2, 384, .inl gd)), (a3, .inl (k3, 384, .inl gl)), (a4, .inl (k4, 24, .inl (fun j => bI (dz j)))), (a5, .inl (k5, 24, .inl (fun j => bI (lg j))))]) ⟨hx, hb, hml, hown, hts⟩ (c1_in l D (nI t) 0 1000) (va_cwS 3 hts gX1_start_X1_in rfl rfl rfl (by decide +kernel) ⟨Nat.le_of_ble_eq_true rfl, Nat.le_of_ble_eq_true rfl⟩) hK hP hD hS hA [] [0, 1, 2, 3, 4, 5] [] [0, 1, 2, 3, 4, 5] rfl rfl (by decide) rfl (by decide) (by decide) rfl (by decide) rfl hl.1 rfl (Nat.le_of_ble_eq_true rfl) dX1_start_12 ⟨Nat.zero_le _, Nat.zero_le _⟩ (fun H locs hP hD hS => ?_)
      refine tp_as (z := 1) (by rw [inR_ix 1001 (by decide) 1000 rfl _, e1]; rfl) ?_
      refine lv_if_ne (tgt := 20) hx hb dX1_start_15 (by decide) (fun c_2 => ?_) (fun c_2 => ?_)
      · -- T of pc 15
        refine lv_aload_n hx hb dX1_start_20 rfl (lv_at hl 0 rfl) ?_
        refine va_get (ci := 1) (v := .int 1) (C := RX1) (T := TX1) (N := 10) hx hb hts (by decide +kernel) hown hK hP 0 rfl rfl 6 (by decide) (hts (.fieldLink RX1 42 "CommitLogModel" "mark" "Z") (by decide +kernel)) (fun _ h9 => h9) rfl dX1_start_21 ?_
        refine lv_if_eq (tgt := 41) hx hb dX1_start_24 (by decide) (fun c_3 => ?_) (fun c_3 => ?_)
        · -- T of pc 24
          exact absurd c_3 (by decide)
        · -- F of pc 24
          refine lv_aload_n hx hb dX1_start_27 rfl (lv_at hl 0 rfl) ?_
          refine lv_aload_n hx hb dX1_start_28 rfl (lv_at hl 0 rfl) ?_
          refine ct_Vi (As := []) (rest := [.ref h0]) (wr := []) (wn := [(h0, .inr (1, [.ref a1, .ref a2, .ref a3, .ref a4, .ref a5, .int 1, .int 1, .int (nI la), .int (lfI lf), .int (nI sh)])), (a1, .inl (k1, 384, .inl gw)), (a2, .inl (k2, 384, .inl gd)), (a3, .inl (k3, 384, .inl gl)), (a4, .inl (k4, 24, .inl (fun j => bI (dz j)))), (a5, .inl (k5, 24, .inl (fun j => bI (lg j))))]) ⟨hx, hb, hml, hown, hts⟩ (c1_loggedMany l D h0 a1 a2 a3 a4 a5 k1 k2 k3 k4 k5 gw gd gl dz lg true true la lf sh) (cwV 0 hts gX1_start_X1_loggedMany rfl rfl rfl (by decide +kernel) ⟨Nat.le_of_ble_eq_true rfl, Nat.le_of_ble_eq_true rfl⟩) hK hP hD hS hA [0, 1, 2, 3, 4, 5] [] [0, 1, 2, 3, 4] [0, 1, 2, 3, 4, 5] rfl rfl (by decide) rfl (by decide) (by decide) rfl (by decide) 1 rfl 0 rfl rfl hl.1 rfl (Nat.le_of_ble_eq_true rfl) dX1_start_29 ⟨Nat.zero_le _, Nat.zero_le _⟩ (fun H locs hP hD hS => ?_)
          refine lv_iload_n hx hb dX1_start_32 rfl (lv_at hl 1 rfl) ?_
          refine lv_imul hx hb dX1_start_33 ?_
          refine tp_as (z := nI (cnt lg 24 * t)) (pk_mul _ _) ?_
          refine lv_sipush (v := 1000) hx hb dX1_start_34 (by decide) ?_
          refine lv_idiv hx hb dX1_start_37 (by decide) ?_
          refine tp_as (z := nI (cnt lg 24 * t / 1000)) (pk_div (d := 1000) (by omega) (by decide) (by decide)) ?_
          refine ct_Vv (As := [.int (nI (cnt lg 24 * t / 1000))]) (rest := []) (wr := []) (wn := [(h0, .inr (1, [.ref a1, .ref a2, .ref a3, .ref a4, .ref a5, .int 1, .int 1, .int (nI la), .int (lfI lf), .int (nI sh)])), (a1, .inl (k1, 384, .inl gw)), (a2, .inl (k2, 384, .inl (lyK gl lg (cnt lg 24 * t / 1000) gd 24))), (a3, .inl (k3, 384, .inl gl)), (a4, .inl (k4, 24, .inl (fun j => bI (dz j)))), (a5, .inl (k5, 24, .inl (fun j => bI (lg j))))]) ⟨hx, hb, hml, hown, hts⟩ (c1_lay l D h0 a1 a2 a3 a4 a5 k1 k2 k3 k4 k5 gw gd gl dz lg true true la lf sh (cnt lg 24 * t / 1000) (sh_div hc (by omega))) (cwV 1 hts gX1_start_X1_lay rfl rfl rfl (by decide +kernel) ⟨Nat.le_of_ble_eq_true rfl, Nat.le_of_ble_eq_true rfl⟩) hK hP hD hS hA [0, 1, 2, 3, 4, 5] [] [0, 1, 2, 3, 4] [0, 1, 2, 3, 4, 5] rfl rfl (by decide) rfl (by decide) (by decide) rfl (by decide) 1 rfl 0 rfl rfl hl.1 rfl (Nat.le_of_ble_eq_true rfl) dX1_start_38 ⟨Nat.zero_le _, Nat.zero_le _⟩ (fun H locs hP hD hS => ?_)
          refine lv_iload_n hx hb dX1_start_41 rfl (lv_at hl 1 rfl) ?_
          refine lv_sipush (v := 1000) hx hb dX1_start_42 (by decide) ?_
          refine lv_icmp_ge (tgt := 50) hx hb dX1_start_45 (by decide) (fun c_4 => ?_) (fun c_4 => ?_)
          · -- T of pc 45
            exact absurd c_4 (show ¬ nI 1000 ≤ nI t from nI_ge (by omega) (by decide))
          · -- F of pc 45
            refine lv_iconst (v := 0) hx hb dX1_start_48 (by decide) ?_
            exact hret _ _ _ _ _ hP hD hS rfl dX1_start_49
      · -- F of pc 15
        exact absurd c_2 (by decide)
set_option maxHeartbeats 4000000 in
set_option maxRecDepth 100000 in
theorem c1_start_on (l : Launch) (D : va_G) (h0 a1 a2 a3 a4 a5 : Nat) (k1 k2 k3 k4 k5 : ClassId) (gw gd gl : Nat → Int32) (dz lg : Nat → Bool) (mk : Bool) (la : Nat) (lf : Option Nat) (sh : Nat) : ct_i l yX1_start wsX1_start ({ frames := 2, cells := 0, slots := 0, locals := 46 }) D vwCl (MT k1 k2 k3 k4 k5) [.ref h0, .int (nI 1000)] (MW h0 a1 a2 a3 a4 a5 k1 k2 k3 k4 k5 gw gd gl dz lg true mk la lf sh) (MW h0 a1 a2 a3 a4 a5 k1 k2 k3 k4 k5 (frK (msd mk gl lg gd 1000) gw 24) (msd mk gl lg gd 1000) gl (clr dz 24) lg false false la lf sh) (bI true) := by
  have hc := cnt_le lg 24
  have hm := sh_mul (s := 1000) (m := 1000) hc (by omega)
  have e1 : ix 1001 (nI 1000) = some 1000 := ix_nI (by omega) (by decide)
  cases mk with
  | false =>
    refine ct_i.of (cc := cX1_start) (maxL := 2) (ty := .boolean) (by decide) rfl (Nat.le_of_ble_eq_true rfl) (nb_bI _) ?_
    intro p e s m args below meth c ls A Q hx hb hml hts hown hK hP hD hA hS hl hret
    have hown : s.vm.findClass RX1 = some m.cls := hown
    have hl : lv_has ls 2 [(0, .ref h0), (1, .int (nI 1000))] := hl
    have hP : va_P D vwCl [(h0, .inr (1, [.ref a1, .ref a2, .ref a3, .ref a4, .ref a5, .int 1, .int 0, .int (nI la), .int (lfI lf), .int (nI sh)])), (a1, .inl (k1, 384, .inl gw)), (a2, .inl (k2, 384, .inl gd)), (a3, .inl (k3, 384, .inl gl)), (a4, .inl (k4, 24, .inl (fun j => bI (dz j)))), (a5, .inl (k5, 24, .inl (fun j => bI (lg j))))] s.heap := hP
    have hD : va_D A [(h0, .inr (1, [.ref a1, .ref a2, .ref a3, .ref a4, .ref a5, .int 1, .int 0, .int (nI la), .int (lfI lf), .int (nI sh)])), (a1, .inl (k1, 384, .inl gw)), (a2, .inl (k2, 384, .inl gd)), (a3, .inl (k3, 384, .inl gl)), (a4, .inl (k4, 24, .inl (fun j => bI (dz j)))), (a5, .inl (k5, 24, .inl (fun j => bI (lg j))))] := hD
    refine lv_aload_n hx hb dX1_start_0 rfl (lv_at hl 0 rfl) ?_
    refine va_get (ci := 1) (v := .int 1) (C := RX1) (T := TX1) (N := 10) hx hb hts (by decide +kernel) hown hK hP 0 rfl rfl 5 (by decide) (hts (.fieldLink RX1 30 "CommitLogModel" "off" "Z") (by decide +kernel)) (fun _ h9 => h9) rfl dX1_start_1 ?_
    refine lv_if_eq (tgt := 18) hx hb dX1_start_4 (by decide) (fun c_1 => ?_) (fun c_1 => ?_)
    · -- T of pc 4
      exact absurd c_1 (by decide)
    · -- F of pc 4
      refine lv_iload_n hx hb dX1_start_7 rfl (lv_at hl 1 rfl) ?_
      refine lv_iconst (v := 0) hx hb dX1_start_8 (by decide) ?_
      refine lv_sipush (v := 1000) hx hb dX1_start_9 (by decide) ?_
      refine ct_Si (As := [.int (nI 1000), .int 0, .int 1000]) (rest := []) (wr := [(h0, .inr (1, [.ref a1, .ref a2, .ref a3, .ref a4, .ref a5, .int 1, .int 0, .int (nI la), .int (lfI lf), .int (nI sh)])), (a1, .inl (k1, 384, .inl gw)), (a2, .inl (k2, 384, .inl gd)), (a3, .inl (k3, 384, .inl gl)), (a4, .inl (k4, 24, .inl (fun j => bI (dz j)))), (a5, .inl (k5, 24, .inl (fun j => bI (lg j))))]) (wn := [(h0, .inr (1, [.ref a1, .ref a2, .ref a3, .ref a4, .ref a5, .int 1, .int 0, .int (nI la), .int (lfI lf), .int (nI sh)])), (a1, .inl (k1, 384, .inl gw)), (a2, .inl (k2, 384, .inl gd)), (a3, .inl (k3, 384, .inl gl)), (a4, .inl (k4, 24, .inl (fun j => bI (dz j)))), (a5, .inl (k5, 24, .inl (fun j => bI (lg j))))]) ⟨hx, hb, hml, hown, hts⟩ (c1_in l D (nI 1000) 0 1000) (va_cwS 3 hts gX1_start_X1_in rfl rfl rfl (by decide +kernel) ⟨Nat.le_of_ble_eq_true rfl, Nat.le_of_ble_eq_true rfl⟩) hK hP hD hS hA [] [0, 1, 2, 3, 4, 5] [] [0, 1, 2, 3, 4, 5] rfl rfl (by decide) rfl (by decide) (by decide) rfl (by decide) rfl hl.1 rfl (Nat.le_of_ble_eq_true rfl) dX1_start_12 ⟨Nat.zero_le _, Nat.zero_le _⟩ (fun H locs hP hD hS => ?_)
      refine tp_as (z := 1) (by rw [inR_ix 1001 (by decide) 1000 rfl _, e1]; rfl) ?_
      refine lv_if_ne (tgt := 20) hx hb dX1_start_15 (by decide) (fun c_2 => ?_) (fun c_2 => ?_)
      · -- T of pc 15
        refine lv_aload_n hx hb dX1_start_20 rfl (lv_at hl 0 rfl) ?_
        refine va_get (ci := 1) (v := .int 0) (C := RX1) (T := TX1) (N := 10) hx hb hts (by decide +kernel) hown hK hP 0 rfl rfl 6 (by decide) (hts (.fieldLink RX1 42 "CommitLogModel" "mark" "Z") (by decide +kernel)) (fun _ h9 => h9) rfl dX1_start_21 ?_
        refine lv_if_eq (tgt := 41) hx hb dX1_start_24 (by decide) (fun c_3 => ?_) (fun c_3 => ?_)
        · -- T of pc 24
          refine lv_iload_n hx hb dX1_start_41 rfl (lv_at hl 1 rfl) ?_
          refine lv_sipush (v := 1000) hx hb dX1_start_42 (by decide) ?_
          refine lv_icmp_ge (tgt := 50) hx hb dX1_start_45 (by decide) (fun c_4 => ?_) (fun c_4 => ?_)
          · -- T of pc 45
            refine lv_aload_n hx hb dX1_start_50 rfl (lv_at hl 0 rfl) ?_
            refine lv_iconst (v := 0) hx hb dX1_start_51 (by decide) ?_
            refine va_put (ci := 1) (v := .int 0) (ty := .boolean) (C := RX1) (T := TX1) (N := 10) hx hb hts (by decide +kernel) tyX1 tyX1_ok nmX1 hown hK hP hD hS 0 rfl rfl 6 (by decide) (hts (.fieldLink RX1 42 "CommitLogModel" "mark" "Z") (by decide +kernel)) (fun _ h9 => h9) rfl (by decide +kernel) rfl rfl (Nat.le_of_ble_eq_true rfl) dX1_start_52 (fun H locs hP hD hS => ?_)
            have hP : va_P D vwCl [(h0, .inr (1, [.ref a1, .ref a2, .ref a3, .ref a4, .ref a5, .int 1, .int 0, .int (nI la), .int (lfI lf), .int (nI sh)])), (a1, .inl (k1, 384, .inl gw)), (a2, .inl (k2, 384, .inl gd)), (a3, .inl (k3, 384, .inl gl)), (a4, .inl (k4, 24, .inl (fun j => bI (dz j)))), (a5, .inl (k5, 24, .inl (fun j => bI (lg j))))] H := hP
            have hD : va_D _ [(h0, .inr (1, [.ref a1, .ref a2, .ref a3, .ref a4, .ref a5, .int 1, .int 0, .int (nI la), .int (lfI lf), .int (nI sh)])), (a1, .inl (k1, 384, .inl gw)), (a2, .inl (k2, 384, .inl gd)), (a3, .inl (k3, 384, .inl gl)), (a4, .inl (k4, 24, .inl (fun j => bI (dz j)))), (a5, .inl (k5, 24, .inl (fun j => bI (lg j))))] := hD
            refine lv_aload_n hx hb dX1_start_55 rfl (lv_at hl 0 rfl) ?_
            refine lv_iconst (v := 0) hx hb dX1_start_56 (by decide) ?_
            refine va_put (ci := 1) (v := .int 0) (ty := .boolean) (C := RX1) (T := TX1) (N := 10) hx hb hts (by decide +kernel) tyX1 tyX1_ok nmX1 hown hK hP hD hS 0 rfl rfl 5 (by decide) (hts (.fieldLink RX1 30 "CommitLogModel" "off" "Z") (by decide +kernel)) (fun _ h9 => h9) rfl (by decide +kernel) rfl rfl (Nat.le_of_ble_eq_true rfl) dX1_start_57 (fun H locs hP hD hS => ?_)
            have hP : va_P D vwCl [(h0, .inr (1, [.ref a1, .ref a2, .ref a3, .ref a4, .ref a5, .int 0, .int 0, .int (nI la), .int (lfI lf), .int (nI sh)])), (a1, .inl (k1, 384, .inl gw)), (a2, .inl (k2, 384, .inl gd)), (a3, .inl (k3, 384, .inl gl)), (a4, .inl (k4, 24, .inl (fun j => bI (dz j)))), (a5, .inl (k5, 24, .inl (fun j => bI (lg j))))] H := hP
            have hD : va_D _ [(h0, .inr (1, [.ref a1, .ref a2, .ref a3, .ref a4, .ref a5, .int 0, .int 0, .int (nI la), .int (lfI lf), .int (nI sh)])), (a1, .inl (k1, 384, .inl gw)), (a2, .inl (k2, 384, .inl gd)), (a3, .inl (k3, 384, .inl gl)), (a4, .inl (k4, 24, .inl (fun j => bI (dz j)))), (a5, .inl (k5, 24, .inl (fun j => bI (lg j))))] := hD
            refine lv_aload_n hx hb dX1_start_60 rfl (lv_at hl 0 rfl) ?_
            refine ct_Vv (As := []) (rest := []) (wr := []) (wn := [(h0, .inr (1, [.ref a1, .ref a2, .ref a3, .ref a4, .ref a5, .int 0, .int 0, .int (nI la), .int (lfI lf), .int (nI sh)])), (a1, .inl (k1, 384, .inl (frK gd gw 24))), (a2, .inl (k2, 384, .inl gd)), (a3, .inl (k3, 384, .inl gl)), (a4, .inl (k4, 24, .inl (fun j => bI ((clr dz 24) j)))), (a5, .inl (k5, 24, .inl (fun j => bI (lg j))))]) ⟨hx, hb, hml, hown, hts⟩ (c1_fresh l D h0 a1 a2 a3 a4 a5 k1 k2 k3 k4 k5 gw gd gl dz lg false false la lf sh) (cwV 0 hts gX1_start_X1_fresh rfl rfl rfl (by decide +kernel) ⟨Nat.le_of_ble_eq_true rfl, Nat.le_of_ble_eq_true rfl⟩) hK hP hD hS hA [0, 1, 2, 3, 4, 5] [] [0, 1, 2, 3, 4] [0, 1, 2, 3, 4, 5] rfl rfl (by decide) rfl (by decide) (by decide) rfl (by decide) 1 rfl 0 rfl rfl hl.1 rfl (Nat.le_of_ble_eq_true rfl) dX1_start_61 ⟨Nat.zero_le _, Nat.zero_le _⟩ (fun H locs hP hD hS => ?_)
            refine lv_iconst (v := 1) hx hb dX1_start_64 (by decide) ?_
            exact hret _ _ _ _ _ hP hD hS rfl dX1_start_65
          · -- F of pc 45
            exact absurd (by decide) c_4
        · -- F of pc 24
          exact absurd (by decide) c_3
      · -- F of pc 15
        exact absurd c_2 (by decide)
  | true =>
    refine ct_i.of (cc := cX1_start) (maxL := 2) (ty := .boolean) (by decide) rfl (Nat.le_of_ble_eq_true rfl) (nb_bI _) ?_
    intro p e s m args below meth c ls A Q hx hb hml hts hown hK hP hD hA hS hl hret
    have hown : s.vm.findClass RX1 = some m.cls := hown
    have hl : lv_has ls 2 [(0, .ref h0), (1, .int (nI 1000))] := hl
    have hP : va_P D vwCl [(h0, .inr (1, [.ref a1, .ref a2, .ref a3, .ref a4, .ref a5, .int 1, .int 1, .int (nI la), .int (lfI lf), .int (nI sh)])), (a1, .inl (k1, 384, .inl gw)), (a2, .inl (k2, 384, .inl gd)), (a3, .inl (k3, 384, .inl gl)), (a4, .inl (k4, 24, .inl (fun j => bI (dz j)))), (a5, .inl (k5, 24, .inl (fun j => bI (lg j))))] s.heap := hP
    have hD : va_D A [(h0, .inr (1, [.ref a1, .ref a2, .ref a3, .ref a4, .ref a5, .int 1, .int 1, .int (nI la), .int (lfI lf), .int (nI sh)])), (a1, .inl (k1, 384, .inl gw)), (a2, .inl (k2, 384, .inl gd)), (a3, .inl (k3, 384, .inl gl)), (a4, .inl (k4, 24, .inl (fun j => bI (dz j)))), (a5, .inl (k5, 24, .inl (fun j => bI (lg j))))] := hD
    refine lv_aload_n hx hb dX1_start_0 rfl (lv_at hl 0 rfl) ?_
    refine va_get (ci := 1) (v := .int 1) (C := RX1) (T := TX1) (N := 10) hx hb hts (by decide +kernel) hown hK hP 0 rfl rfl 5 (by decide) (hts (.fieldLink RX1 30 "CommitLogModel" "off" "Z") (by decide +kernel)) (fun _ h9 => h9) rfl dX1_start_1 ?_
    refine lv_if_eq (tgt := 18) hx hb dX1_start_4 (by decide) (fun c_1 => ?_) (fun c_1 => ?_)
    · -- T of pc 4
      exact absurd c_1 (by decide)
    · -- F of pc 4
      refine lv_iload_n hx hb dX1_start_7 rfl (lv_at hl 1 rfl) ?_
      refine lv_iconst (v := 0) hx hb dX1_start_8 (by decide) ?_
      refine lv_sipush (v := 1000) hx hb dX1_start_9 (by decide) ?_
      refine ct_Si (As := [.int (nI 1000), .int 0, .int 1000]) (rest := []) (wr := [(h0, .inr (1, [.ref a1, .ref a2, .ref a3, .ref a4, .ref a5, .int 1, .int 1, .int (nI la), .int (lfI lf), .int (nI sh)])), (a1, .inl (k1, 384, .inl gw)), (a2, .inl (k2, 384, .inl gd)), (a3, .inl (k3, 384, .inl gl)), (a4, .inl (k4, 24, .inl (fun j => bI (dz j)))), (a5, .inl (k5, 24, .inl (fun j => bI (lg j))))]) (wn := [(h0, .inr (1, [.ref a1, .ref a2, .ref a3, .ref a4, .ref a5, .int 1, .int 1, .int (nI la), .int (lfI lf), .int (nI sh)])), (a1, .inl (k1, 384, .inl gw)), (a2, .inl (k2, 384, .inl gd)), (a3, .inl (k3, 384, .inl gl)), (a4, .inl (k4, 24, .inl (fun j => bI (dz j)))), (a5, .inl (k5, 24, .inl (fun j => bI (lg j))))]) ⟨hx, hb, hml, hown, hts⟩ (c1_in l D (nI 1000) 0 1000) (va_cwS 3 hts gX1_start_X1_in rfl rfl rfl (by decide +kernel) ⟨Nat.le_of_ble_eq_true rfl, Nat.le_of_ble_eq_true rfl⟩) hK hP hD hS hA [] [0, 1, 2, 3, 4, 5] [] [0, 1, 2, 3, 4, 5] rfl rfl (by decide) rfl (by decide) (by decide) rfl (by decide) rfl hl.1 rfl (Nat.le_of_ble_eq_true rfl) dX1_start_12 ⟨Nat.zero_le _, Nat.zero_le _⟩ (fun H locs hP hD hS => ?_)
      refine tp_as (z := 1) (by rw [inR_ix 1001 (by decide) 1000 rfl _, e1]; rfl) ?_
      refine lv_if_ne (tgt := 20) hx hb dX1_start_15 (by decide) (fun c_2 => ?_) (fun c_2 => ?_)
      · -- T of pc 15
        refine lv_aload_n hx hb dX1_start_20 rfl (lv_at hl 0 rfl) ?_
        refine va_get (ci := 1) (v := .int 1) (C := RX1) (T := TX1) (N := 10) hx hb hts (by decide +kernel) hown hK hP 0 rfl rfl 6 (by decide) (hts (.fieldLink RX1 42 "CommitLogModel" "mark" "Z") (by decide +kernel)) (fun _ h9 => h9) rfl dX1_start_21 ?_
        refine lv_if_eq (tgt := 41) hx hb dX1_start_24 (by decide) (fun c_3 => ?_) (fun c_3 => ?_)
        · -- T of pc 24
          exact absurd c_3 (by decide)
        · -- F of pc 24
          refine lv_aload_n hx hb dX1_start_27 rfl (lv_at hl 0 rfl) ?_
          refine lv_aload_n hx hb dX1_start_28 rfl (lv_at hl 0 rfl) ?_
          refine ct_Vi (As := []) (rest := [.ref h0]) (wr := []) (wn := [(h0, .inr (1, [.ref a1, .ref a2, .ref a3, .ref a4, .ref a5, .int 1, .int 1, .int (nI la), .int (lfI lf), .int (nI sh)])), (a1, .inl (k1, 384, .inl gw)), (a2, .inl (k2, 384, .inl gd)), (a3, .inl (k3, 384, .inl gl)), (a4, .inl (k4, 24, .inl (fun j => bI (dz j)))), (a5, .inl (k5, 24, .inl (fun j => bI (lg j))))]) ⟨hx, hb, hml, hown, hts⟩ (c1_loggedMany l D h0 a1 a2 a3 a4 a5 k1 k2 k3 k4 k5 gw gd gl dz lg true true la lf sh) (cwV 0 hts gX1_start_X1_loggedMany rfl rfl rfl (by decide +kernel) ⟨Nat.le_of_ble_eq_true rfl, Nat.le_of_ble_eq_true rfl⟩) hK hP hD hS hA [0, 1, 2, 3, 4, 5] [] [0, 1, 2, 3, 4] [0, 1, 2, 3, 4, 5] rfl rfl (by decide) rfl (by decide) (by decide) rfl (by decide) 1 rfl 0 rfl rfl hl.1 rfl (Nat.le_of_ble_eq_true rfl) dX1_start_29 ⟨Nat.zero_le _, Nat.zero_le _⟩ (fun H locs hP hD hS => ?_)
          refine lv_iload_n hx hb dX1_start_32 rfl (lv_at hl 1 rfl) ?_
          refine lv_imul hx hb dX1_start_33 ?_
          refine tp_as (z := nI (cnt lg 24 * 1000)) (pk_mul _ _) ?_
          refine lv_sipush (v := 1000) hx hb dX1_start_34 (by decide) ?_
          refine lv_idiv hx hb dX1_start_37 (by decide) ?_
          refine tp_as (z := nI (cnt lg 24 * 1000 / 1000)) (pk_div (d := 1000) (by omega) (by decide) (by decide)) ?_
          refine ct_Vv (As := [.int (nI (cnt lg 24 * 1000 / 1000))]) (rest := []) (wr := []) (wn := [(h0, .inr (1, [.ref a1, .ref a2, .ref a3, .ref a4, .ref a5, .int 1, .int 1, .int (nI la), .int (lfI lf), .int (nI sh)])), (a1, .inl (k1, 384, .inl gw)), (a2, .inl (k2, 384, .inl (lyK gl lg (cnt lg 24 * 1000 / 1000) gd 24))), (a3, .inl (k3, 384, .inl gl)), (a4, .inl (k4, 24, .inl (fun j => bI (dz j)))), (a5, .inl (k5, 24, .inl (fun j => bI (lg j))))]) ⟨hx, hb, hml, hown, hts⟩ (c1_lay l D h0 a1 a2 a3 a4 a5 k1 k2 k3 k4 k5 gw gd gl dz lg true true la lf sh (cnt lg 24 * 1000 / 1000) (sh_div hc (by omega))) (cwV 1 hts gX1_start_X1_lay rfl rfl rfl (by decide +kernel) ⟨Nat.le_of_ble_eq_true rfl, Nat.le_of_ble_eq_true rfl⟩) hK hP hD hS hA [0, 1, 2, 3, 4, 5] [] [0, 1, 2, 3, 4] [0, 1, 2, 3, 4, 5] rfl rfl (by decide) rfl (by decide) (by decide) rfl (by decide) 1 rfl 0 rfl rfl hl.1 rfl (Nat.le_of_ble_eq_true rfl) dX1_start_38 ⟨Nat.zero_le _, Nat.zero_le _⟩ (fun H locs hP hD hS => ?_)
          refine lv_iload_n hx hb dX1_start_41 rfl (lv_at hl 1 rfl) ?_
          refine lv_sipush (v := 1000) hx hb dX1_start_42 (by decide) ?_
          refine lv_icmp_ge (tgt := 50) hx hb dX1_start_45 (by decide) (fun c_4 => ?_) (fun c_4 => ?_)
          · -- T of pc 45
            refine lv_aload_n hx hb dX1_start_50 rfl (lv_at hl 0 rfl) ?_
            refine lv_iconst (v := 0) hx hb dX1_start_51 (by decide) ?_
            refine va_put (ci := 1) (v := .int 0) (ty := .boolean) (C := RX1) (T := TX1) (N := 10) hx hb hts (by decide +kernel) tyX1 tyX1_ok nmX1 hown hK hP hD hS 0 rfl rfl 6 (by decide) (hts (.fieldLink RX1 42 "CommitLogModel" "mark" "Z") (by decide +kernel)) (fun _ h9 => h9) rfl (by decide +kernel) rfl rfl (Nat.le_of_ble_eq_true rfl) dX1_start_52 (fun H locs hP hD hS => ?_)
            have hP : va_P D vwCl [(h0, .inr (1, [.ref a1, .ref a2, .ref a3, .ref a4, .ref a5, .int 1, .int 0, .int (nI la), .int (lfI lf), .int (nI sh)])), (a1, .inl (k1, 384, .inl gw)), (a2, .inl (k2, 384, .inl (lyK gl lg (cnt lg 24 * 1000 / 1000) gd 24))), (a3, .inl (k3, 384, .inl gl)), (a4, .inl (k4, 24, .inl (fun j => bI (dz j)))), (a5, .inl (k5, 24, .inl (fun j => bI (lg j))))] H := hP
            have hD : va_D _ [(h0, .inr (1, [.ref a1, .ref a2, .ref a3, .ref a4, .ref a5, .int 1, .int 0, .int (nI la), .int (lfI lf), .int (nI sh)])), (a1, .inl (k1, 384, .inl gw)), (a2, .inl (k2, 384, .inl (lyK gl lg (cnt lg 24 * 1000 / 1000) gd 24))), (a3, .inl (k3, 384, .inl gl)), (a4, .inl (k4, 24, .inl (fun j => bI (dz j)))), (a5, .inl (k5, 24, .inl (fun j => bI (lg j))))] := hD
            refine lv_aload_n hx hb dX1_start_55 rfl (lv_at hl 0 rfl) ?_
            refine lv_iconst (v := 0) hx hb dX1_start_56 (by decide) ?_
            refine va_put (ci := 1) (v := .int 0) (ty := .boolean) (C := RX1) (T := TX1) (N := 10) hx hb hts (by decide +kernel) tyX1 tyX1_ok nmX1 hown hK hP hD hS 0 rfl rfl 5 (by decide) (hts (.fieldLink RX1 30 "CommitLogModel" "off" "Z") (by decide +kernel)) (fun _ h9 => h9) rfl (by decide +kernel) rfl rfl (Nat.le_of_ble_eq_true rfl) dX1_start_57 (fun H locs hP hD hS => ?_)
            have hP : va_P D vwCl [(h0, .inr (1, [.ref a1, .ref a2, .ref a3, .ref a4, .ref a5, .int 0, .int 0, .int (nI la), .int (lfI lf), .int (nI sh)])), (a1, .inl (k1, 384, .inl gw)), (a2, .inl (k2, 384, .inl (lyK gl lg (cnt lg 24 * 1000 / 1000) gd 24))), (a3, .inl (k3, 384, .inl gl)), (a4, .inl (k4, 24, .inl (fun j => bI (dz j)))), (a5, .inl (k5, 24, .inl (fun j => bI (lg j))))] H := hP
            have hD : va_D _ [(h0, .inr (1, [.ref a1, .ref a2, .ref a3, .ref a4, .ref a5, .int 0, .int 0, .int (nI la), .int (lfI lf), .int (nI sh)])), (a1, .inl (k1, 384, .inl gw)), (a2, .inl (k2, 384, .inl (lyK gl lg (cnt lg 24 * 1000 / 1000) gd 24))), (a3, .inl (k3, 384, .inl gl)), (a4, .inl (k4, 24, .inl (fun j => bI (dz j)))), (a5, .inl (k5, 24, .inl (fun j => bI (lg j))))] := hD
            refine lv_aload_n hx hb dX1_start_60 rfl (lv_at hl 0 rfl) ?_
            refine ct_Vv (As := []) (rest := []) (wr := []) (wn := [(h0, .inr (1, [.ref a1, .ref a2, .ref a3, .ref a4, .ref a5, .int 0, .int 0, .int (nI la), .int (lfI lf), .int (nI sh)])), (a1, .inl (k1, 384, .inl (frK (lyK gl lg (cnt lg 24 * 1000 / 1000) gd 24) gw 24))), (a2, .inl (k2, 384, .inl (lyK gl lg (cnt lg 24 * 1000 / 1000) gd 24))), (a3, .inl (k3, 384, .inl gl)), (a4, .inl (k4, 24, .inl (fun j => bI ((clr dz 24) j)))), (a5, .inl (k5, 24, .inl (fun j => bI (lg j))))]) ⟨hx, hb, hml, hown, hts⟩ (c1_fresh l D h0 a1 a2 a3 a4 a5 k1 k2 k3 k4 k5 gw (lyK gl lg (cnt lg 24 * 1000 / 1000) gd 24) gl dz lg false false la lf sh) (cwV 0 hts gX1_start_X1_fresh rfl rfl rfl (by decide +kernel) ⟨Nat.le_of_ble_eq_true rfl, Nat.le_of_ble_eq_true rfl⟩) hK hP hD hS hA [0, 1, 2, 3, 4, 5] [] [0, 1, 2, 3, 4] [0, 1, 2, 3, 4, 5] rfl rfl (by decide) rfl (by decide) (by decide) rfl (by decide) 1 rfl 0 rfl rfl hl.1 rfl (Nat.le_of_ble_eq_true rfl) dX1_start_61 ⟨Nat.zero_le _, Nat.zero_le _⟩ (fun H locs hP hD hS => ?_)
            refine lv_iconst (v := 1) hx hb dX1_start_64 (by decide) ?_
            exact hret _ _ _ _ _ hP hD hS rfl dX1_start_65
          · -- F of pc 45
            exact absurd (by decide) c_4
      · -- F of pc 15
        exact absurd c_2 (by decide)
end
section
/-! The two constructors. -/
theorem na_n384 : (384 : Int32).toNatClampNeg = 384 := rfl
theorem na_384i (cA : ClassId) : vp_cell cA (384, .inl (fun _ => 0)) = arrV cA 384 (fun _ => defaultValue .int) := vp_cell_i cA 384 (fun _ => 0)
theorem na_b384i : 384 * componentBytes .int ≤ 536870912 := Nat.le_of_ble_eq_true rfl
theorem na_384b (cA : ClassId) : vp_cell cA (384, .inl (fun _ => 0)) = arrV cA 384 (fun _ => defaultValue .byte) := vp_cell_i cA 384 (fun _ => 0)
theorem na_b384b : 384 * componentBytes .byte ≤ 536870912 := Nat.le_of_ble_eq_true rfl
theorem na_n24 : (24 : Int32).toNatClampNeg = 24 := rfl
theorem na_24i (cA : ClassId) : vp_cell cA (24, .inl (fun _ => 0)) = arrV cA 24 (fun _ => defaultValue .int) := vp_cell_i cA 24 (fun _ => 0)
theorem na_b24i : 24 * componentBytes .int ≤ 536870912 := Nat.le_of_ble_eq_true rfl
theorem na_24z (cA : ClassId) : vp_cell cA (24, .inl (fun _ => 0)) = arrV cA 24 (fun _ => defaultValue .boolean) := vp_cell_i cA 24 (fun _ => 0)
theorem na_b24z : 24 * componentBytes .boolean ≤ 536870912 := Nat.le_of_ble_eq_true rfl
abbrev U10 : Type := Nat × Nat × Nat × Nat × Nat × ClassId × ClassId × ClassId × ClassId × ClassId
abbrev XW_init0 (h0 : Nat) : va_W := [(h0, .inr (0, [.null, .null, .null, .null, .null, .int 0, .int 0, .int 0, .int 0, .int 0]))]
abbrev XW_at (D : va_G) (A : Nat → Prop) (h0 : Nat) (u : U10) (t : State) : Prop := match u with
  | (a1, a2, a3, a4, a5, k1, k2, k3, k4, k5) => va_P D vwCl (XW h0 a1 a2 a3 a4 a5 k1 k2 k3 k4 k5 (fun _ => 0) (fun _ => 0) (fun _ => 0) (fun _ => false) (fun _ => false) true false 0 0 0) t.heap ∧ va_K D vwCl (XT k1 k2 k3 k4 k5) t ∧ va_D A (XW h0 a1 a2 a3 a4 a5 k1 k2 k3 k4 k5 (fun _ => 0) (fun _ => 0) (fun _ => 0) (fun _ => false) (fun _ => false) true false 0 0 0)
set_option maxHeartbeats 4000000 in
set_option maxRecDepth 100000 in
theorem c0_init (l : Launch) (D : va_G) (h0 sz : Nat) : Met l yX0_init wsX0_init ({ frames := 1, cells := 5, slots := 1200, locals := 12 }) (sp_P D vwCl [] [.ref h0] (XW_init0 h0) sz) (va_Qv (fun (_ : U10) => True) (XW_at D (va_A (XW_init0 h0) sz) h0) (va_A (XW_init0 h0) sz)) 5 1200 (va_A (XW_init0 h0) sz) := by
  refine Met.ofW (cc := cX0_init) (maxL := 1) (ret := none) (by decide) rfl ?_
  intro p e s m args below meth c s₁ B hml hv
  obtain ⟨rfl, hsz, hP, hK, hD0⟩ := hv
  have hx := B.exec
  have hb := B.bytes
  have hr := B.returns
  have hts := atoms_spec (ws := wsX0_init) B.pre
  have hown : s.vm.findClass RX0 = some m.cls := findClass_of_methodNamed B.named
  have hlk := B.notSynchronized
  have hin : meth.name = "<init>" := (name_of_methodNamed B.named B.method).1
  subst hsz
  have hD := hD0.self (sz := s.heap.size)
  have hA : ∀ q : Nat, s.heap.size ≤ q → va_A [(h0, .inr (0, [.null, .null, .null, .null, .null, .int 0, .int 0, .int 0, .int 0, .int 0]))] s.heap.size q := fun q h => Or.inr h
  have hS : va_S (va_A [(h0, .inr (0, [.null, .null, .null, .null, .null, .int 0, .int 0, .int 0, .int 0, .int 0]))] s.heap.size) s.heap s.heap [] := va_S.rf
  have hP : va_P D vwCl [(h0, .inr (0, [.null, .null, .null, .null, .null, .int 0, .int 0, .int 0, .int 0, .int 0]))] s.heap := hP
  have hl := lv_entry ([.ref h0]) (n := 1) (Nat.le_of_ble_eq_true rfl)
  rw [lg_entry_eq]
  generalize (lg_sl ([.ref h0]) ++ List.replicate (1 - (lg_sl ([.ref h0])).length) Slot.unset).toArray = ls at hl ⊢
  have hl : lv_has ls 1 [(0, .ref h0)] := hl
  refine lv_aload_n hx hb dX0_init_0 rfl (lv_at hl 0 rfl) ?_
  refine W.objInit hx hb hown (hts (.methodLink RX0 3 objectInit) (by decide +kernel)) (hts (.instanceMethod objectInit) (by decide +kernel)) (hts _ (List.mem_cons_of_mem _ (List.mem_append_left _ (List.mem_of_getElem? (i := 2) rfl)))) rfl (by rw [hml]; exact hl.1) rfl dX0_init_1 (Nat.le_of_ble_eq_true rfl) (Nat.le_of_ble_eq_true rfl) ?_
  refine W.eq (g2 := F0 m 4 ls []) rfl ?_
  refine lv_aload_n hx hb dX0_init_4 rfl (lv_at hl 0 rfl) ?_
  refine lv_sipush (v := 384) hx hb dX0_init_5 (by decide) ?_
  refine va_newa (atype := .int) (ty := .int) (N' := 384) (a0 := (384, .inl (fun _ => 0))) hx hb (hts (.arrayClass .int) (by decide +kernel)) rfl hK hP hD hS hA (fun cA => na_384i cA) (by decide) na_n384 na_b384i (Nat.le_of_ble_eq_true rfl) (Nat.le_of_ble_eq_true rfl) dX0_init_8 (fun a1 k1 H hK hP hD hS => ?_)
  have hP : va_P D vwCl [(h0, .inr (0, [.null, .null, .null, .null, .null, .int 0, .int 0, .int 0, .int 0, .int 0])), (a1, .inl (k1, 384, .inl (fun _ => 0)))] H := hP
  have hD : va_D _ [(h0, .inr (0, [.null, .null, .null, .null, .null, .int 0, .int 0, .int 0, .int 0, .int 0])), (a1, .inl (k1, 384, .inl (fun _ => 0)))] := hD
  have hK : va_K D vwCl [(k1, .int)] s := hK
  refine va_putF (ci := 0) (v := .ref a1) (ty := .array .int) (C := RX0) (T := TX0) (N := 10) hx hb hts (by decide +kernel) tyX0 tyX0_ok nmX0 hown hK hP hD hS 0 rfl rfl 0 (by decide) (hts (.fieldLink RX0 9 "CommitLog" "work" "[I") (by decide +kernel)) (fun _ h9 => h9) rfl hin rfl (by decide +kernel) rfl rfl (Nat.le_of_ble_eq_true rfl) dX0_init_10 (fun H locs hP hD hS => ?_)
  have hP : va_P D vwCl [(h0, .inr (0, [.ref a1, .null, .null, .null, .null, .int 0, .int 0, .int 0, .int 0, .int 0])), (a1, .inl (k1, 384, .inl (fun _ => 0)))] H := hP
  have hD : va_D _ [(h0, .inr (0, [.ref a1, .null, .null, .null, .null, .int 0, .int 0, .int 0, .int 0, .int 0])), (a1, .inl (k1, 384, .inl (fun _ => 0)))] := hD
  refine lv_aload_n hx hb dX0_init_13 rfl (lv_at hl 0 rfl) ?_
  refine lv_sipush (v := 384) hx hb dX0_init_14 (by decide) ?_
  refine va_newa (atype := .int) (ty := .int) (N' := 384) (a0 := (384, .inl (fun _ => 0))) hx hb (hts (.arrayClass .int) (by decide +kernel)) rfl hK hP hD hS hA (fun cA => na_384i cA) (by decide) na_n384 na_b384i (Nat.le_of_ble_eq_true rfl) (Nat.le_of_ble_eq_true rfl) dX0_init_17 (fun a2 k2 H hK hP hD hS => ?_)
  have hP : va_P D vwCl [(h0, .inr (0, [.ref a1, .null, .null, .null, .null, .int 0, .int 0, .int 0, .int 0, .int 0])), (a1, .inl (k1, 384, .inl (fun _ => 0))), (a2, .inl (k2, 384, .inl (fun _ => 0)))] H := hP
  have hD : va_D _ [(h0, .inr (0, [.ref a1, .null, .null, .null, .null, .int 0, .int 0, .int 0, .int 0, .int 0])), (a1, .inl (k1, 384, .inl (fun _ => 0))), (a2, .inl (k2, 384, .inl (fun _ => 0)))] := hD
  have hK : va_K D vwCl [(k1, .int), (k2, .int)] s := hK
  refine va_putF (ci := 0) (v := .ref a2) (ty := .array .int) (C := RX0) (T := TX0) (N := 10) hx hb hts (by decide +kernel) tyX0 tyX0_ok nmX0 hown hK hP hD hS 0 rfl rfl 1 (by decide) (hts (.fieldLink RX0 13 "CommitLog" "onDisk" "[I") (by decide +kernel)) (fun _ h9 => h9) rfl hin rfl (by decide +kernel) rfl rfl (Nat.le_of_ble_eq_true rfl) dX0_init_19 (fun H locs hP hD hS => ?_)
  have hP : va_P D vwCl [(h0, .inr (0, [.ref a1, .ref a2, .null, .null, .null, .int 0, .int 0, .int 0, .int 0, .int 0])), (a1, .inl (k1, 384, .inl (fun _ => 0))), (a2, .inl (k2, 384, .inl (fun _ => 0)))] H := hP
  have hD : va_D _ [(h0, .inr (0, [.ref a1, .ref a2, .null, .null, .null, .int 0, .int 0, .int 0, .int 0, .int 0])), (a1, .inl (k1, 384, .inl (fun _ => 0))), (a2, .inl (k2, 384, .inl (fun _ => 0)))] := hD
  refine lv_aload_n hx hb dX0_init_22 rfl (lv_at hl 0 rfl) ?_
  refine lv_sipush (v := 384) hx hb dX0_init_23 (by decide) ?_
  refine va_newa (atype := .int) (ty := .int) (N' := 384) (a0 := (384, .inl (fun _ => 0))) hx hb (hts (.arrayClass .int) (by decide +kernel)) rfl hK hP hD hS hA (fun cA => na_384i cA) (by decide) na_n384 na_b384i (Nat.le_of_ble_eq_true rfl) (Nat.le_of_ble_eq_true rfl) dX0_init_26 (fun a3 k3 H hK hP hD hS => ?_)
  have hP : va_P D vwCl [(h0, .inr (0, [.ref a1, .ref a2, .null, .null, .null, .int 0, .int 0, .int 0, .int 0, .int 0])), (a1, .inl (k1, 384, .inl (fun _ => 0))), (a2, .inl (k2, 384, .inl (fun _ => 0))), (a3, .inl (k3, 384, .inl (fun _ => 0)))] H := hP
  have hD : va_D _ [(h0, .inr (0, [.ref a1, .ref a2, .null, .null, .null, .int 0, .int 0, .int 0, .int 0, .int 0])), (a1, .inl (k1, 384, .inl (fun _ => 0))), (a2, .inl (k2, 384, .inl (fun _ => 0))), (a3, .inl (k3, 384, .inl (fun _ => 0)))] := hD
  have hK : va_K D vwCl [(k1, .int), (k2, .int), (k3, .int)] s := hK
  refine va_putF (ci := 0) (v := .ref a3) (ty := .array .int) (C := RX0) (T := TX0) (N := 10) hx hb hts (by decide +kernel) tyX0 tyX0_ok nmX0 hown hK hP hD hS 0 rfl rfl 2 (by decide) (hts (.fieldLink RX0 16 "CommitLog" "logBytes" "[I") (by decide +kernel)) (fun _ h9 => h9) rfl hin rfl (by decide +kernel) rfl rfl (Nat.le_of_ble_eq_true rfl) dX0_init_28 (fun H locs hP hD hS => ?_)
  have hP : va_P D vwCl [(h0, .inr (0, [.ref a1, .ref a2, .ref a3, .null, .null, .int 0, .int 0, .int 0, .int 0, .int 0])), (a1, .inl (k1, 384, .inl (fun _ => 0))), (a2, .inl (k2, 384, .inl (fun _ => 0))), (a3, .inl (k3, 384, .inl (fun _ => 0)))] H := hP
  have hD : va_D _ [(h0, .inr (0, [.ref a1, .ref a2, .ref a3, .null, .null, .int 0, .int 0, .int 0, .int 0, .int 0])), (a1, .inl (k1, 384, .inl (fun _ => 0))), (a2, .inl (k2, 384, .inl (fun _ => 0))), (a3, .inl (k3, 384, .inl (fun _ => 0)))] := hD
  refine lv_aload_n hx hb dX0_init_31 rfl (lv_at hl 0 rfl) ?_
  refine lv_bipush (v := 24) hx hb dX0_init_32 (by decide) ?_
  refine va_newa (atype := .boolean) (ty := .boolean) (N' := 24) (a0 := (24, .inl (fun _ => 0))) hx hb (hts (.arrayClass .boolean) (by decide +kernel)) rfl hK hP hD hS hA (fun cA => na_24z cA) (by decide) na_n24 na_b24z (Nat.le_of_ble_eq_true rfl) (Nat.le_of_ble_eq_true rfl) dX0_init_34 (fun a4 k4 H hK hP hD hS => ?_)
  have hP : va_P D vwCl [(h0, .inr (0, [.ref a1, .ref a2, .ref a3, .null, .null, .int 0, .int 0, .int 0, .int 0, .int 0])), (a1, .inl (k1, 384, .inl (fun _ => 0))), (a2, .inl (k2, 384, .inl (fun _ => 0))), (a3, .inl (k3, 384, .inl (fun _ => 0))), (a4, .inl (k4, 24, .inl (fun _ => 0)))] H := hP
  have hD : va_D _ [(h0, .inr (0, [.ref a1, .ref a2, .ref a3, .null, .null, .int 0, .int 0, .int 0, .int 0, .int 0])), (a1, .inl (k1, 384, .inl (fun _ => 0))), (a2, .inl (k2, 384, .inl (fun _ => 0))), (a3, .inl (k3, 384, .inl (fun _ => 0))), (a4, .inl (k4, 24, .inl (fun _ => 0)))] := hD
  have hK : va_K D vwCl [(k1, .int), (k2, .int), (k3, .int), (k4, .boolean)] s := hK
  refine va_putF (ci := 0) (v := .ref a4) (ty := .array .boolean) (C := RX0) (T := TX0) (N := 10) hx hb hts (by decide +kernel) tyX0 tyX0_ok nmX0 hown hK hP hD hS 0 rfl rfl 3 (by decide) (hts (.fieldLink RX0 19 "CommitLog" "written" "[Z") (by decide +kernel)) (fun _ h9 => h9) rfl hin rfl (by decide +kernel) rfl rfl (Nat.le_of_ble_eq_true rfl) dX0_init_36 (fun H locs hP hD hS => ?_)
  have hP : va_P D vwCl [(h0, .inr (0, [.ref a1, .ref a2, .ref a3, .ref a4, .null, .int 0, .int 0, .int 0, .int 0, .int 0])), (a1, .inl (k1, 384, .inl (fun _ => 0))), (a2, .inl (k2, 384, .inl (fun _ => 0))), (a3, .inl (k3, 384, .inl (fun _ => 0))), (a4, .inl (k4, 24, .inl (fun _ => 0)))] H := hP
  have hD : va_D _ [(h0, .inr (0, [.ref a1, .ref a2, .ref a3, .ref a4, .null, .int 0, .int 0, .int 0, .int 0, .int 0])), (a1, .inl (k1, 384, .inl (fun _ => 0))), (a2, .inl (k2, 384, .inl (fun _ => 0))), (a3, .inl (k3, 384, .inl (fun _ => 0))), (a4, .inl (k4, 24, .inl (fun _ => 0)))] := hD
  refine lv_aload_n hx hb dX0_init_39 rfl (lv_at hl 0 rfl) ?_
  refine lv_bipush (v := 24) hx hb dX0_init_40 (by decide) ?_
  refine va_newa (atype := .boolean) (ty := .boolean) (N' := 24) (a0 := (24, .inl (fun _ => 0))) hx hb (hts (.arrayClass .boolean) (by decide +kernel)) rfl hK hP hD hS hA (fun cA => na_24z cA) (by decide) na_n24 na_b24z (Nat.le_of_ble_eq_true rfl) (Nat.le_of_ble_eq_true rfl) dX0_init_42 (fun a5 k5 H hK hP hD hS => ?_)
  have hP : va_P D vwCl [(h0, .inr (0, [.ref a1, .ref a2, .ref a3, .ref a4, .null, .int 0, .int 0, .int 0, .int 0, .int 0])), (a1, .inl (k1, 384, .inl (fun _ => 0))), (a2, .inl (k2, 384, .inl (fun _ => 0))), (a3, .inl (k3, 384, .inl (fun _ => 0))), (a4, .inl (k4, 24, .inl (fun _ => 0))), (a5, .inl (k5, 24, .inl (fun _ => 0)))] H := hP
  have hD : va_D _ [(h0, .inr (0, [.ref a1, .ref a2, .ref a3, .ref a4, .null, .int 0, .int 0, .int 0, .int 0, .int 0])), (a1, .inl (k1, 384, .inl (fun _ => 0))), (a2, .inl (k2, 384, .inl (fun _ => 0))), (a3, .inl (k3, 384, .inl (fun _ => 0))), (a4, .inl (k4, 24, .inl (fun _ => 0))), (a5, .inl (k5, 24, .inl (fun _ => 0)))] := hD
  have hK : va_K D vwCl [(k1, .int), (k2, .int), (k3, .int), (k4, .boolean), (k5, .boolean)] s := hK
  refine va_putF (ci := 0) (v := .ref a5) (ty := .array .boolean) (C := RX0) (T := TX0) (N := 10) hx hb hts (by decide +kernel) tyX0 tyX0_ok nmX0 hown hK hP hD hS 0 rfl rfl 4 (by decide) (hts (.fieldLink RX0 23 "CommitLog" "logged" "[Z") (by decide +kernel)) (fun _ h9 => h9) rfl hin rfl (by decide +kernel) rfl rfl (Nat.le_of_ble_eq_true rfl) dX0_init_44 (fun H locs hP hD hS => ?_)
  have hP : va_P D vwCl [(h0, .inr (0, [.ref a1, .ref a2, .ref a3, .ref a4, .ref a5, .int 0, .int 0, .int 0, .int 0, .int 0])), (a1, .inl (k1, 384, .inl (fun _ => 0))), (a2, .inl (k2, 384, .inl (fun _ => 0))), (a3, .inl (k3, 384, .inl (fun _ => 0))), (a4, .inl (k4, 24, .inl (fun _ => 0))), (a5, .inl (k5, 24, .inl (fun _ => 0)))] H := hP
  have hD : va_D _ [(h0, .inr (0, [.ref a1, .ref a2, .ref a3, .ref a4, .ref a5, .int 0, .int 0, .int 0, .int 0, .int 0])), (a1, .inl (k1, 384, .inl (fun _ => 0))), (a2, .inl (k2, 384, .inl (fun _ => 0))), (a3, .inl (k3, 384, .inl (fun _ => 0))), (a4, .inl (k4, 24, .inl (fun _ => 0))), (a5, .inl (k5, 24, .inl (fun _ => 0)))] := hD
  refine lv_aload_n hx hb dX0_init_47 rfl (lv_at hl 0 rfl) ?_
  refine lv_iconst (v := 1) hx hb dX0_init_48 (by decide) ?_
  refine va_put (ci := 0) (v := .int 1) (ty := .boolean) (C := RX0) (T := TX0) (N := 10) hx hb hts (by decide +kernel) tyX0 tyX0_ok nmX0 hown hK hP hD hS 0 rfl rfl 5 (by decide) (hts (.fieldLink RX0 26 "CommitLog" "powered" "Z") (by decide +kernel)) (fun _ h9 => h9) rfl (by decide +kernel) rfl rfl (Nat.le_of_ble_eq_true rfl) dX0_init_49 (fun H locs hP hD hS => ?_)
  have hP : va_P D vwCl [(h0, .inr (0, [.ref a1, .ref a2, .ref a3, .ref a4, .ref a5, .int 1, .int 0, .int 0, .int 0, .int 0])), (a1, .inl (k1, 384, .inl (fun _ => 0))), (a2, .inl (k2, 384, .inl (fun _ => 0))), (a3, .inl (k3, 384, .inl (fun _ => 0))), (a4, .inl (k4, 24, .inl (fun _ => 0))), (a5, .inl (k5, 24, .inl (fun _ => 0)))] H := hP
  have hD : va_D _ [(h0, .inr (0, [.ref a1, .ref a2, .ref a3, .ref a4, .ref a5, .int 1, .int 0, .int 0, .int 0, .int 0])), (a1, .inl (k1, 384, .inl (fun _ => 0))), (a2, .inl (k2, 384, .inl (fun _ => 0))), (a3, .inl (k3, 384, .inl (fun _ => 0))), (a4, .inl (k4, 24, .inl (fun _ => 0))), (a5, .inl (k5, 24, .inl (fun _ => 0)))] := hD
  refine lv_aload_n hx hb dX0_init_52 rfl (lv_at hl 0 rfl) ?_
  refine lv_iconst (v := 0) hx hb dX0_init_53 (by decide) ?_
  refine va_put (ci := 0) (v := .int 0) (ty := .boolean) (C := RX0) (T := TX0) (N := 10) hx hb hts (by decide +kernel) tyX0 tyX0_ok nmX0 hown hK hP hD hS 0 rfl rfl 6 (by decide) (hts (.fieldLink RX0 30 "CommitLog" "marked" "Z") (by decide +kernel)) (fun _ h9 => h9) rfl (by decide +kernel) rfl rfl (Nat.le_of_ble_eq_true rfl) dX0_init_54 (fun H locs hP hD hS => ?_)
  have hP : va_P D vwCl [(h0, .inr (0, [.ref a1, .ref a2, .ref a3, .ref a4, .ref a5, .int 1, .int 0, .int 0, .int 0, .int 0])), (a1, .inl (k1, 384, .inl (fun _ => 0))), (a2, .inl (k2, 384, .inl (fun _ => 0))), (a3, .inl (k3, 384, .inl (fun _ => 0))), (a4, .inl (k4, 24, .inl (fun _ => 0))), (a5, .inl (k5, 24, .inl (fun _ => 0)))] H := hP
  have hD : va_D _ [(h0, .inr (0, [.ref a1, .ref a2, .ref a3, .ref a4, .ref a5, .int 1, .int 0, .int 0, .int 0, .int 0])), (a1, .inl (k1, 384, .inl (fun _ => 0))), (a2, .inl (k2, 384, .inl (fun _ => 0))), (a3, .inl (k3, 384, .inl (fun _ => 0))), (a4, .inl (k4, 24, .inl (fun _ => 0))), (a5, .inl (k5, 24, .inl (fun _ => 0)))] := hD
  refine lv_aload_n hx hb dX0_init_57 rfl (lv_at hl 0 rfl) ?_
  refine lv_iconst (v := 0) hx hb dX0_init_58 (by decide) ?_
  refine va_put (ci := 0) (v := .int 0) (ty := .int) (C := RX0) (T := TX0) (N := 10) hx hb hts (by decide +kernel) tyX0 tyX0_ok nmX0 hown hK hP hD hS 0 rfl rfl 7 (by decide) (hts (.fieldLink RX0 33 "CommitLog" "latestCount" "I") (by decide +kernel)) (fun _ h9 => h9) rfl (by decide +kernel) rfl rfl (Nat.le_of_ble_eq_true rfl) dX0_init_59 (fun H locs hP hD hS => ?_)
  have hP : va_P D vwCl [(h0, .inr (0, [.ref a1, .ref a2, .ref a3, .ref a4, .ref a5, .int 1, .int 0, .int 0, .int 0, .int 0])), (a1, .inl (k1, 384, .inl (fun _ => 0))), (a2, .inl (k2, 384, .inl (fun _ => 0))), (a3, .inl (k3, 384, .inl (fun _ => 0))), (a4, .inl (k4, 24, .inl (fun _ => 0))), (a5, .inl (k5, 24, .inl (fun _ => 0)))] H := hP
  have hD : va_D _ [(h0, .inr (0, [.ref a1, .ref a2, .ref a3, .ref a4, .ref a5, .int 1, .int 0, .int 0, .int 0, .int 0])), (a1, .inl (k1, 384, .inl (fun _ => 0))), (a2, .inl (k2, 384, .inl (fun _ => 0))), (a3, .inl (k3, 384, .inl (fun _ => 0))), (a4, .inl (k4, 24, .inl (fun _ => 0))), (a5, .inl (k5, 24, .inl (fun _ => 0)))] := hD
  refine lv_aload_n hx hb dX0_init_62 rfl (lv_at hl 0 rfl) ?_
  refine lv_iconst (v := 0) hx hb dX0_init_63 (by decide) ?_
  refine va_put (ci := 0) (v := .int 0) (ty := .int) (C := RX0) (T := TX0) (N := 10) hx hb hts (by decide +kernel) tyX0 tyX0_ok nmX0 hown hK hP hD hS 0 rfl rfl 8 (by decide) (hts (.fieldLink RX0 37 "CommitLog" "commitsUntilCut" "I") (by decide +kernel)) (fun _ h9 => h9) rfl (by decide +kernel) rfl rfl (Nat.le_of_ble_eq_true rfl) dX0_init_64 (fun H locs hP hD hS => ?_)
  have hP : va_P D vwCl [(h0, .inr (0, [.ref a1, .ref a2, .ref a3, .ref a4, .ref a5, .int 1, .int 0, .int 0, .int 0, .int 0])), (a1, .inl (k1, 384, .inl (fun _ => 0))), (a2, .inl (k2, 384, .inl (fun _ => 0))), (a3, .inl (k3, 384, .inl (fun _ => 0))), (a4, .inl (k4, 24, .inl (fun _ => 0))), (a5, .inl (k5, 24, .inl (fun _ => 0)))] H := hP
  have hD : va_D _ [(h0, .inr (0, [.ref a1, .ref a2, .ref a3, .ref a4, .ref a5, .int 1, .int 0, .int 0, .int 0, .int 0])), (a1, .inl (k1, 384, .inl (fun _ => 0))), (a2, .inl (k2, 384, .inl (fun _ => 0))), (a3, .inl (k3, 384, .inl (fun _ => 0))), (a4, .inl (k4, 24, .inl (fun _ => 0))), (a5, .inl (k5, 24, .inl (fun _ => 0)))] := hD
  refine lv_aload_n hx hb dX0_init_67 rfl (lv_at hl 0 rfl) ?_
  refine lv_iconst (v := 0) hx hb dX0_init_68 (by decide) ?_
  refine va_put (ci := 0) (v := .int 0) (ty := .int) (C := RX0) (T := TX0) (N := 10) hx hb hts (by decide +kernel) tyX0 tyX0_ok nmX0 hown hK hP hD hS 0 rfl rfl 9 (by decide) (hts (.fieldLink RX0 40 "CommitLog" "cutShare" "I") (by decide +kernel)) (fun _ h9 => h9) rfl (by decide +kernel) rfl rfl (Nat.le_of_ble_eq_true rfl) dX0_init_69 (fun H locs hP hD hS => ?_)
  have hP : va_P D vwCl [(h0, .inr (0, [.ref a1, .ref a2, .ref a3, .ref a4, .ref a5, .int 1, .int 0, .int 0, .int 0, .int 0])), (a1, .inl (k1, 384, .inl (fun _ => 0))), (a2, .inl (k2, 384, .inl (fun _ => 0))), (a3, .inl (k3, 384, .inl (fun _ => 0))), (a4, .inl (k4, 24, .inl (fun _ => 0))), (a5, .inl (k5, 24, .inl (fun _ => 0)))] H := hP
  have hD : va_D _ [(h0, .inr (0, [.ref a1, .ref a2, .ref a3, .ref a4, .ref a5, .int 1, .int 0, .int 0, .int 0, .int 0])), (a1, .inl (k1, 384, .inl (fun _ => 0))), (a2, .inl (k2, 384, .inl (fun _ => 0))), (a3, .inl (k3, 384, .inl (fun _ => 0))), (a4, .inl (k4, 24, .inl (fun _ => 0))), (a5, .inl (k5, 24, .inl (fun _ => 0)))] := hD
  refine W.widen (k := 5) (n := 1200) (by decide) (by decide) ?_
  exact W.vret hx hb hr (fun t ht hW => ⟨⟨(a1, a2, a3, a4, a5, k1, k2, k3, k4, k5), rfl, trivial, by rw [ht]; exact hP, va_K.moved hW.alike hK, hD⟩, hS.F ht⟩) hS.2.2 dX0_init_72 hlk
abbrev MW_init0 (h0 : Nat) : va_W := [(h0, .inr (1, [.null, .null, .null, .null, .null, .int 0, .int 0, .int 0, .int 0, .int 0]))]
abbrev MW_at (D : va_G) (A : Nat → Prop) (h0 : Nat) (u : U10) (t : State) : Prop := match u with
  | (a1, a2, a3, a4, a5, k1, k2, k3, k4, k5) => va_P D vwCl (MW h0 a1 a2 a3 a4 a5 k1 k2 k3 k4 k5 (fun _ => 0) (fun _ => 0) (fun _ => 0) (fun _ => false) (fun _ => false) false false 0 (some 0) 0) t.heap ∧ va_K D vwCl (MT k1 k2 k3 k4 k5) t ∧ va_D A (MW h0 a1 a2 a3 a4 a5 k1 k2 k3 k4 k5 (fun _ => 0) (fun _ => 0) (fun _ => 0) (fun _ => false) (fun _ => false) false false 0 (some 0) 0)
set_option maxHeartbeats 4000000 in
set_option maxRecDepth 100000 in
theorem c1_init (l : Launch) (D : va_G) (h0 sz : Nat) : Met l yX1_init wsX1_init ({ frames := 1, cells := 5, slots := 1200, locals := 12 }) (sp_P D vwCl [] [.ref h0] (MW_init0 h0) sz) (va_Qv (fun (_ : U10) => True) (MW_at D (va_A (MW_init0 h0) sz) h0) (va_A (MW_init0 h0) sz)) 5 1200 (va_A (MW_init0 h0) sz) := by
  refine Met.ofW (cc := cX1_init) (maxL := 1) (ret := none) (by decide) rfl ?_
  intro p e s m args below meth c s₁ B hml hv
  obtain ⟨rfl, hsz, hP, hK, hD0⟩ := hv
  have hx := B.exec
  have hb := B.bytes
  have hr := B.returns
  have hts := atoms_spec (ws := wsX1_init) B.pre
  have hown : s.vm.findClass RX1 = some m.cls := findClass_of_methodNamed B.named
  have hlk := B.notSynchronized
  have hin : meth.name = "<init>" := (name_of_methodNamed B.named B.method).1
  subst hsz
  have hD := hD0.self (sz := s.heap.size)
  have hA : ∀ q : Nat, s.heap.size ≤ q → va_A [(h0, .inr (1, [.null, .null, .null, .null, .null, .int 0, .int 0, .int 0, .int 0, .int 0]))] s.heap.size q := fun q h => Or.inr h
  have hS : va_S (va_A [(h0, .inr (1, [.null, .null, .null, .null, .null, .int 0, .int 0, .int 0, .int 0, .int 0]))] s.heap.size) s.heap s.heap [] := va_S.rf
  have hP : va_P D vwCl [(h0, .inr (1, [.null, .null, .null, .null, .null, .int 0, .int 0, .int 0, .int 0, .int 0]))] s.heap := hP
  have hl := lv_entry ([.ref h0]) (n := 1) (Nat.le_of_ble_eq_true rfl)
  rw [lg_entry_eq]
  generalize (lg_sl ([.ref h0]) ++ List.replicate (1 - (lg_sl ([.ref h0])).length) Slot.unset).toArray = ls at hl ⊢
  have hl : lv_has ls 1 [(0, .ref h0)] := hl
  refine lv_aload_n hx hb dX1_init_0 rfl (lv_at hl 0 rfl) ?_
  refine W.objInit hx hb hown (hts (.methodLink RX1 1 objectInit) (by decide +kernel)) (hts (.instanceMethod objectInit) (by decide +kernel)) (hts _ (List.mem_cons_of_mem _ (List.mem_append_left _ (List.mem_of_getElem? (i := 2) rfl)))) rfl (by rw [hml]; exact hl.1) rfl dX1_init_1 (Nat.le_of_ble_eq_true rfl) (Nat.le_of_ble_eq_true rfl) ?_
  refine W.eq (g2 := F0 m 4 ls []) rfl ?_
  refine lv_aload_n hx hb dX1_init_4 rfl (lv_at hl 0 rfl) ?_
  refine lv_sipush (v := 384) hx hb dX1_init_5 (by decide) ?_
  refine va_newa (atype := .byte) (ty := .byte) (N' := 384) (a0 := (384, .inl (fun _ => 0))) hx hb (hts (.arrayClass .byte) (by decide +kernel)) rfl hK hP hD hS hA (fun cA => na_384b cA) (by decide) na_n384 na_b384b (Nat.le_of_ble_eq_true rfl) (Nat.le_of_ble_eq_true rfl) dX1_init_8 (fun a1 k1 H hK hP hD hS => ?_)
  have hP : va_P D vwCl [(h0, .inr (1, [.null, .null, .null, .null, .null, .int 0, .int 0, .int 0, .int 0, .int 0])), (a1, .inl (k1, 384, .inl (fun _ => 0)))] H := hP
  have hD : va_D _ [(h0, .inr (1, [.null, .null, .null, .null, .null, .int 0, .int 0, .int 0, .int 0, .int 0])), (a1, .inl (k1, 384, .inl (fun _ => 0)))] := hD
  have hK : va_K D vwCl [(k1, .byte)] s := hK
  refine va_putF (ci := 1) (v := .ref a1) (ty := .array .byte) (C := RX1) (T := TX1) (N := 10) hx hb hts (by decide +kernel) tyX1 tyX1_ok nmX1 hown hK hP hD hS 0 rfl rfl 0 (by decide) (hts (.fieldLink RX1 7 "CommitLogModel" "work" "[B") (by decide +kernel)) (fun _ h9 => h9) rfl hin rfl (by decide +kernel) rfl rfl (Nat.le_of_ble_eq_true rfl) dX1_init_10 (fun H locs hP hD hS => ?_)
  have hP : va_P D vwCl [(h0, .inr (1, [.ref a1, .null, .null, .null, .null, .int 0, .int 0, .int 0, .int 0, .int 0])), (a1, .inl (k1, 384, .inl (fun _ => 0)))] H := hP
  have hD : va_D _ [(h0, .inr (1, [.ref a1, .null, .null, .null, .null, .int 0, .int 0, .int 0, .int 0, .int 0])), (a1, .inl (k1, 384, .inl (fun _ => 0)))] := hD
  refine lv_aload_n hx hb dX1_init_13 rfl (lv_at hl 0 rfl) ?_
  refine lv_sipush (v := 384) hx hb dX1_init_14 (by decide) ?_
  refine va_newa (atype := .byte) (ty := .byte) (N' := 384) (a0 := (384, .inl (fun _ => 0))) hx hb (hts (.arrayClass .byte) (by decide +kernel)) rfl hK hP hD hS hA (fun cA => na_384b cA) (by decide) na_n384 na_b384b (Nat.le_of_ble_eq_true rfl) (Nat.le_of_ble_eq_true rfl) dX1_init_17 (fun a2 k2 H hK hP hD hS => ?_)
  have hP : va_P D vwCl [(h0, .inr (1, [.ref a1, .null, .null, .null, .null, .int 0, .int 0, .int 0, .int 0, .int 0])), (a1, .inl (k1, 384, .inl (fun _ => 0))), (a2, .inl (k2, 384, .inl (fun _ => 0)))] H := hP
  have hD : va_D _ [(h0, .inr (1, [.ref a1, .null, .null, .null, .null, .int 0, .int 0, .int 0, .int 0, .int 0])), (a1, .inl (k1, 384, .inl (fun _ => 0))), (a2, .inl (k2, 384, .inl (fun _ => 0)))] := hD
  have hK : va_K D vwCl [(k1, .byte), (k2, .byte)] s := hK
  refine va_putF (ci := 1) (v := .ref a2) (ty := .array .byte) (C := RX1) (T := TX1) (N := 10) hx hb hts (by decide +kernel) tyX1 tyX1_ok nmX1 hown hK hP hD hS 0 rfl rfl 1 (by decide) (hts (.fieldLink RX1 13 "CommitLogModel" "disk" "[B") (by decide +kernel)) (fun _ h9 => h9) rfl hin rfl (by decide +kernel) rfl rfl (Nat.le_of_ble_eq_true rfl) dX1_init_19 (fun H locs hP hD hS => ?_)
  have hP : va_P D vwCl [(h0, .inr (1, [.ref a1, .ref a2, .null, .null, .null, .int 0, .int 0, .int 0, .int 0, .int 0])), (a1, .inl (k1, 384, .inl (fun _ => 0))), (a2, .inl (k2, 384, .inl (fun _ => 0)))] H := hP
  have hD : va_D _ [(h0, .inr (1, [.ref a1, .ref a2, .null, .null, .null, .int 0, .int 0, .int 0, .int 0, .int 0])), (a1, .inl (k1, 384, .inl (fun _ => 0))), (a2, .inl (k2, 384, .inl (fun _ => 0)))] := hD
  refine lv_aload_n hx hb dX1_init_22 rfl (lv_at hl 0 rfl) ?_
  refine lv_sipush (v := 384) hx hb dX1_init_23 (by decide) ?_
  refine va_newa (atype := .byte) (ty := .byte) (N' := 384) (a0 := (384, .inl (fun _ => 0))) hx hb (hts (.arrayClass .byte) (by decide +kernel)) rfl hK hP hD hS hA (fun cA => na_384b cA) (by decide) na_n384 na_b384b (Nat.le_of_ble_eq_true rfl) (Nat.le_of_ble_eq_true rfl) dX1_init_26 (fun a3 k3 H hK hP hD hS => ?_)
  have hP : va_P D vwCl [(h0, .inr (1, [.ref a1, .ref a2, .null, .null, .null, .int 0, .int 0, .int 0, .int 0, .int 0])), (a1, .inl (k1, 384, .inl (fun _ => 0))), (a2, .inl (k2, 384, .inl (fun _ => 0))), (a3, .inl (k3, 384, .inl (fun _ => 0)))] H := hP
  have hD : va_D _ [(h0, .inr (1, [.ref a1, .ref a2, .null, .null, .null, .int 0, .int 0, .int 0, .int 0, .int 0])), (a1, .inl (k1, 384, .inl (fun _ => 0))), (a2, .inl (k2, 384, .inl (fun _ => 0))), (a3, .inl (k3, 384, .inl (fun _ => 0)))] := hD
  have hK : va_K D vwCl [(k1, .byte), (k2, .byte), (k3, .byte)] s := hK
  refine va_putF (ci := 1) (v := .ref a3) (ty := .array .byte) (C := RX1) (T := TX1) (N := 10) hx hb hts (by decide +kernel) tyX1 tyX1_ok nmX1 hown hK hP hD hS 0 rfl rfl 2 (by decide) (hts (.fieldLink RX1 16 "CommitLogModel" "log" "[B") (by decide +kernel)) (fun _ h9 => h9) rfl hin rfl (by decide +kernel) rfl rfl (Nat.le_of_ble_eq_true rfl) dX1_init_28 (fun H locs hP hD hS => ?_)
  have hP : va_P D vwCl [(h0, .inr (1, [.ref a1, .ref a2, .ref a3, .null, .null, .int 0, .int 0, .int 0, .int 0, .int 0])), (a1, .inl (k1, 384, .inl (fun _ => 0))), (a2, .inl (k2, 384, .inl (fun _ => 0))), (a3, .inl (k3, 384, .inl (fun _ => 0)))] H := hP
  have hD : va_D _ [(h0, .inr (1, [.ref a1, .ref a2, .ref a3, .null, .null, .int 0, .int 0, .int 0, .int 0, .int 0])), (a1, .inl (k1, 384, .inl (fun _ => 0))), (a2, .inl (k2, 384, .inl (fun _ => 0))), (a3, .inl (k3, 384, .inl (fun _ => 0)))] := hD
  refine lv_aload_n hx hb dX1_init_31 rfl (lv_at hl 0 rfl) ?_
  refine lv_bipush (v := 24) hx hb dX1_init_32 (by decide) ?_
  refine va_newa (atype := .boolean) (ty := .boolean) (N' := 24) (a0 := (24, .inl (fun _ => 0))) hx hb (hts (.arrayClass .boolean) (by decide +kernel)) rfl hK hP hD hS hA (fun cA => na_24z cA) (by decide) na_n24 na_b24z (Nat.le_of_ble_eq_true rfl) (Nat.le_of_ble_eq_true rfl) dX1_init_34 (fun a4 k4 H hK hP hD hS => ?_)
  have hP : va_P D vwCl [(h0, .inr (1, [.ref a1, .ref a2, .ref a3, .null, .null, .int 0, .int 0, .int 0, .int 0, .int 0])), (a1, .inl (k1, 384, .inl (fun _ => 0))), (a2, .inl (k2, 384, .inl (fun _ => 0))), (a3, .inl (k3, 384, .inl (fun _ => 0))), (a4, .inl (k4, 24, .inl (fun _ => 0)))] H := hP
  have hD : va_D _ [(h0, .inr (1, [.ref a1, .ref a2, .ref a3, .null, .null, .int 0, .int 0, .int 0, .int 0, .int 0])), (a1, .inl (k1, 384, .inl (fun _ => 0))), (a2, .inl (k2, 384, .inl (fun _ => 0))), (a3, .inl (k3, 384, .inl (fun _ => 0))), (a4, .inl (k4, 24, .inl (fun _ => 0)))] := hD
  have hK : va_K D vwCl [(k1, .byte), (k2, .byte), (k3, .byte), (k4, .boolean)] s := hK
  refine va_putF (ci := 1) (v := .ref a4) (ty := .array .boolean) (C := RX1) (T := TX1) (N := 10) hx hb hts (by decide +kernel) tyX1 tyX1_ok nmX1 hown hK hP hD hS 0 rfl rfl 3 (by decide) (hts (.fieldLink RX1 19 "CommitLogModel" "dirty" "[Z") (by decide +kernel)) (fun _ h9 => h9) rfl hin rfl (by decide +kernel) rfl rfl (Nat.le_of_ble_eq_true rfl) dX1_init_36 (fun H locs hP hD hS => ?_)
  have hP : va_P D vwCl [(h0, .inr (1, [.ref a1, .ref a2, .ref a3, .ref a4, .null, .int 0, .int 0, .int 0, .int 0, .int 0])), (a1, .inl (k1, 384, .inl (fun _ => 0))), (a2, .inl (k2, 384, .inl (fun _ => 0))), (a3, .inl (k3, 384, .inl (fun _ => 0))), (a4, .inl (k4, 24, .inl (fun _ => 0)))] H := hP
  have hD : va_D _ [(h0, .inr (1, [.ref a1, .ref a2, .ref a3, .ref a4, .null, .int 0, .int 0, .int 0, .int 0, .int 0])), (a1, .inl (k1, 384, .inl (fun _ => 0))), (a2, .inl (k2, 384, .inl (fun _ => 0))), (a3, .inl (k3, 384, .inl (fun _ => 0))), (a4, .inl (k4, 24, .inl (fun _ => 0)))] := hD
  refine lv_aload_n hx hb dX1_init_39 rfl (lv_at hl 0 rfl) ?_
  refine lv_bipush (v := 24) hx hb dX1_init_40 (by decide) ?_
  refine va_newa (atype := .boolean) (ty := .boolean) (N' := 24) (a0 := (24, .inl (fun _ => 0))) hx hb (hts (.arrayClass .boolean) (by decide +kernel)) rfl hK hP hD hS hA (fun cA => na_24z cA) (by decide) na_n24 na_b24z (Nat.le_of_ble_eq_true rfl) (Nat.le_of_ble_eq_true rfl) dX1_init_42 (fun a5 k5 H hK hP hD hS => ?_)
  have hP : va_P D vwCl [(h0, .inr (1, [.ref a1, .ref a2, .ref a3, .ref a4, .null, .int 0, .int 0, .int 0, .int 0, .int 0])), (a1, .inl (k1, 384, .inl (fun _ => 0))), (a2, .inl (k2, 384, .inl (fun _ => 0))), (a3, .inl (k3, 384, .inl (fun _ => 0))), (a4, .inl (k4, 24, .inl (fun _ => 0))), (a5, .inl (k5, 24, .inl (fun _ => 0)))] H := hP
  have hD : va_D _ [(h0, .inr (1, [.ref a1, .ref a2, .ref a3, .ref a4, .null, .int 0, .int 0, .int 0, .int 0, .int 0])), (a1, .inl (k1, 384, .inl (fun _ => 0))), (a2, .inl (k2, 384, .inl (fun _ => 0))), (a3, .inl (k3, 384, .inl (fun _ => 0))), (a4, .inl (k4, 24, .inl (fun _ => 0))), (a5, .inl (k5, 24, .inl (fun _ => 0)))] := hD
  have hK : va_K D vwCl [(k1, .byte), (k2, .byte), (k3, .byte), (k4, .boolean), (k5, .boolean)] s := hK
  refine va_putF (ci := 1) (v := .ref a5) (ty := .array .boolean) (C := RX1) (T := TX1) (N := 10) hx hb hts (by decide +kernel) tyX1 tyX1_ok nmX1 hown hK hP hD hS 0 rfl rfl 4 (by decide) (hts (.fieldLink RX1 23 "CommitLogModel" "logged" "[Z") (by decide +kernel)) (fun _ h9 => h9) rfl hin rfl (by decide +kernel) rfl rfl (Nat.le_of_ble_eq_true rfl) dX1_init_44 (fun H locs hP hD hS => ?_)
  have hP : va_P D vwCl [(h0, .inr (1, [.ref a1, .ref a2, .ref a3, .ref a4, .ref a5, .int 0, .int 0, .int 0, .int 0, .int 0])), (a1, .inl (k1, 384, .inl (fun _ => 0))), (a2, .inl (k2, 384, .inl (fun _ => 0))), (a3, .inl (k3, 384, .inl (fun _ => 0))), (a4, .inl (k4, 24, .inl (fun _ => 0))), (a5, .inl (k5, 24, .inl (fun _ => 0)))] H := hP
  have hD : va_D _ [(h0, .inr (1, [.ref a1, .ref a2, .ref a3, .ref a4, .ref a5, .int 0, .int 0, .int 0, .int 0, .int 0])), (a1, .inl (k1, 384, .inl (fun _ => 0))), (a2, .inl (k2, 384, .inl (fun _ => 0))), (a3, .inl (k3, 384, .inl (fun _ => 0))), (a4, .inl (k4, 24, .inl (fun _ => 0))), (a5, .inl (k5, 24, .inl (fun _ => 0)))] := hD
  refine W.widen (k := 5) (n := 1200) (by decide) (by decide) ?_
  exact W.vret hx hb hr (fun t ht hW => ⟨⟨(a1, a2, a3, a4, a5, k1, k2, k3, k4, k5), rfl, trivial, by rw [ht]; exact hP, va_K.moved hW.alike hK, hD⟩, hS.F ht⟩) hS.2.2 dX1_init_47 hlk
end
section
/-! The class and the reference as functions: what ties them, and that each call keeps it. -/
theorem bp_b (x : Int32) : x.toInt8.toInt32 &&& 255 = x &&& 255 := by
  apply Int32.toBitVec_inj.mp
  rw [Int32.toBitVec_and, Int32.toBitVec_and, Int8.toBitVec_toInt32, Int32.toBitVec_toInt8]
  apply BitVec.eq_of_getLsbD_eq
  intro i hi
  rw [BitVec.getLsbD_and, BitVec.getLsbD_and]
  have hm : ∀ i < 32, 8 ≤ i → (255 : Int32).toBitVec.getLsbD i = false := by decide
  rcases Nat.lt_or_ge i 8 with z | z
  · rw [BitVec.getLsbD_signExtend, BitVec.getLsbD_signExtend, if_pos z, if_pos hi]
    simp only [z, hi, decide_true, Bool.true_and]
  · rw [hm i hi z]; simp
theorem nr_b (x : Int32) : vp_nar .byte x &&& 255 = x &&& 255 := by rw [vp_nar_byte]; exact bp_b x
theorem cpK_in {f g : Nat → Int32} {i j : Nat} (h : i * 16 ≤ j) (h2 : j < i * 16 + 16) : cpK f g i 16 j = vp_nar .byte (f j) := by
  simp only [cpK]; rw [if_pos ⟨h, h2⟩]
theorem cpK_out {f g : Nat → Int32} {i j : Nat} (h : ¬ (i * 16 ≤ j ∧ j < i * 16 + 16)) : cpK f g i 16 j = g j := by
  simp only [cpK]; rw [if_neg h]
theorem cnt_lt {dz : Nat → Bool} {a b : Nat} (h : dz a = true) (hab : a < b) : cnt dz a < cnt dz b := by
  have h1 := cnt_mono dz (a := a + 1) (b - (a + 1))
  rw [show a + 1 + (b - (a + 1)) = b by omega, cnt_t h] at h1
  omega
theorem cnt_congr {dz dy : Nat → Bool} : ∀ k, (∀ b, b < k → dz b = dy b) → cnt dz k = cnt dy k
  | 0, _ => rfl
  | k + 1, h => by
    have h1 := cnt_congr k (fun b hb => h b (by omega))
    simp only [cnt]
    rw [h1, h k (by omega)]
theorem lx_at {f g : Nat → Int32} {z : Nat → Bool} {mo : Nat} : ∀ k b i, i < 16 → lx f z mo g k (b * 16 + i) = if b < k ∧ z b = true ∧ cnt z b < mo then f (b * 16 + i) else g (b * 16 + i)
  | 0, b, i, hi => by rw [if_neg (by omega)]; rfl
  | k + 1, b, i, hi => by
    have ih := lx_at (f := f) (g := g) (z := z) (mo := mo) k b i hi
    by_cases hbk : b = k
    · subst hbk
      rw [if_neg (fun q => absurd q.1 (Nat.lt_irrefl b))] at ih
      by_cases hc : z b = true ∧ cnt z b < mo
      · rw [lx_y hc, pk_cpy_in (by omega) (by omega), if_pos ⟨by omega, hc⟩]
        congr 1
        omega
      · rw [lx_n hc, if_neg (fun q => hc q.2), ih]
    · have e : lx f z mo g (k + 1) (b * 16 + i) = lx f z mo g k (b * 16 + i) := by
        by_cases hc : z k = true ∧ cnt z k < mo
        · rw [lx_y hc]
          exact pk_cpy_out (by omega)
        · rw [lx_n hc]
      rw [e, ih]
      by_cases hc : b < k ∧ z b = true ∧ cnt z b < mo
      · rw [if_pos hc, if_pos ⟨by omega, hc.2⟩]
      · rw [if_neg hc, if_neg (fun q => hc ⟨by omega, q.2⟩)]
theorem lyK_at {gl gd : Nat → Int32} {lg : Nat → Bool} {mo : Nat} : ∀ k b i, i < 16 → lyK gl lg mo gd k (b * 16 + i) = if b < k ∧ lg b = true ∧ cnt lg b < mo then vp_nar .byte (gl (b * 16 + i)) else gd (b * 16 + i)
  | 0, b, i, hi => by rw [if_neg (by omega)]; rfl
  | k + 1, b, i, hi => by
    have ih := lyK_at (gl := gl) (gd := gd) (lg := lg) (mo := mo) k b i hi
    simp only [lyK]
    by_cases hbk : b = k
    · subst hbk
      rw [if_neg (fun q => absurd q.1 (Nat.lt_irrefl b))] at ih
      by_cases hc : lg b = true ∧ cnt lg b < mo
      · rw [if_pos hc, cpK_in (by omega) (by omega), if_pos ⟨by omega, hc⟩]
      · rw [if_neg hc, if_neg (fun q => hc q.2), ih]
    · have e : (if lg k = true ∧ cnt lg k < mo then cpK gl (lyK gl lg mo gd k) k 16 else lyK gl lg mo gd k) (b * 16 + i) = lyK gl lg mo gd k (b * 16 + i) := by
        split
        · exact cpK_out (by omega)
        · rfl
      rw [e, ih]
      by_cases hc : b < k ∧ lg b = true ∧ cnt lg b < mo
      · rw [if_pos hc, if_pos ⟨by omega, hc.2⟩]
      · rw [if_neg hc, if_neg (fun q => hc ⟨by omega, q.2⟩)]
theorem ntK_at {gw gl : Nat → Int32} {dz : Nat → Bool} : ∀ k b i, i < 16 → ntK gw dz gl k (b * 16 + i) = if b < k ∧ dz b = true then vp_nar .byte (gw (b * 16 + i)) else gl (b * 16 + i)
  | 0, b, i, hi => by rw [if_neg (by omega)]; rfl
  | k + 1, b, i, hi => by
    have ih := ntK_at (gw := gw) (gl := gl) (dz := dz) k b i hi
    simp only [ntK]
    by_cases hbk : b = k
    · subst hbk
      rw [if_neg (fun q => absurd q.1 (Nat.lt_irrefl b))] at ih
      cases hz : dz b with
      | true => rw [cond_true, cpK_in (by omega) (by omega), if_pos ⟨by omega, rfl⟩]
      | false => rw [cond_false, if_neg (fun q => absurd q.2 (by decide)), ih]
    · have e : (bif dz k then cpK gw (ntK gw dz gl k) k 16 else ntK gw dz gl k) (b * 16 + i) = ntK gw dz gl k (b * 16 + i) := by
        cases dz k with
        | true => rw [cond_true]; exact cpK_out (by omega)
        | false => rfl
      rw [e, ih]
      by_cases hc : b < k ∧ dz b = true
      · rw [if_pos hc, if_pos ⟨by omega, hc.2⟩]
      · rw [if_neg hc, if_neg (fun q => hc ⟨by omega, q.2⟩)]
theorem frK_at {gd gw : Nat → Int32} : ∀ k b i, i < 16 → frK gd gw k (b * 16 + i) = if b < k then vp_nar .byte (gd (b * 16 + i)) else gw (b * 16 + i)
  | 0, b, i, hi => by rw [if_neg (by omega)]; rfl
  | k + 1, b, i, hi => by
    have ih := frK_at (gd := gd) (gw := gw) k b i hi
    simp only [frK]
    by_cases hbk : b = k
    · subst hbk
      rw [cpK_in (by omega) (by omega), if_pos (by omega)]
    · rw [cpK_out (by omega), ih]
      by_cases hc : b < k
      · rw [if_pos hc, if_pos (by omega)]
      · rw [if_neg hc, if_neg (by omega)]
def EQ (f g : Nat → Int32) : Prop := ∀ b i, b < 24 → i < 16 → f (b * 16 + i) = g (b * 16 + i) &&& 255
def LR (fb : Nat → Int32) (lq : Nat → Bool) (gl : Nat → Int32) (lg : Nat → Bool) : Prop := ∀ b, b < 24 → lq b = lg b ∧ (lg b = true → ∀ i, i < 16 → fb (b * 16 + i) = gl (b * 16 + i) &&& 255)
theorem disk_rel {fb fd gl gd : Nat → Int32} {lq lg : Nat → Bool} (m : Nat) (hL : LR fb lq gl lg) (hE : EQ fd gd) : EQ (lx fb lq m fd 24) (lyK gl lg m gd 24) := by
  intro b i hb hi
  have hc : cnt lq b = cnt lg b := cnt_congr b (fun a ha => (hL a (by omega)).1)
  obtain ⟨h1, h2⟩ := hL b hb
  rw [lx_at 24 b i hi, lyK_at 24 b i hi, hc, h1]
  by_cases h : b < 24 ∧ lg b = true ∧ cnt lg b < m
  · rw [if_pos h, if_pos h, nr_b]
    exact h2 h.2.1 i hi
  · rw [if_neg h, if_neg h]
    exact hE b i hb hi
theorem lgK_at {dy lg : Nat → Bool} {b : Nat} (h : b < 24) : lgK dy lg 24 b = dy b := by simp [lgK, h]
theorem log_rel {fw fb gw gl : Nat → Int32} {lq dz dy lg : Nat → Bool} (hE : EQ fw gw) (hz : ∀ b, b < 24 → dz b = dy b) : LR (lx fw dz (cnt dz 24) fb 24) (lqK dz (cnt dz 24) lq 24) (ntK gw dy gl 24) (lgK dy lg 24) := by
  intro b hb
  rw [lgK_at hb, ← hz b hb]
  refine ⟨?_, fun h i hi => ?_⟩
  · simp only [lqK]
    rw [if_pos hb]
    cases h : dz b with
    | false => rfl
    | true => rw [Bool.true_and]; exact decide_eq_true (cnt_lt h hb)
  · rw [lx_at 24 b i hi, if_pos ⟨hb, h, cnt_lt h hb⟩, ntK_at 24 b i hi, if_pos ⟨hb, by rw [← hz b hb]; exact h⟩, nr_b]
    exact hE b i hb hi
theorem lgK_cnt {dz dy lg : Nat → Bool} (hz : ∀ b, b < 24 → dz b = dy b) : cnt (lgK dy lg 24) 24 = cnt dz 24 := cnt_congr 24 (fun a ha => by rw [lgK_at ha, hz a ha])
theorem fresh_rel {fd gd : Nat → Int32} (fw gw : Nat → Int32) (hE : EQ fd gd) : EQ (va_cpy fd fw 0 0 384) (frK gd gw 24) := by
  intro b i hb hi
  rw [frK_at 24 b i hi, if_pos hb, nr_b, pk_cpy_in (by omega) (by omega)]
  rw [show 0 + (b * 16 + i - 0) = b * 16 + i by omega]
  exact hE b i hb hi
theorem clr_rel (dz dy : Nat → Bool) : ∀ b, b < 24 → clr dz 24 b = clr dy 24 b := fun b hb => by simp [clr, hb]
def Rel (fw fd fb : Nat → Int32) (lq dz : Nat → Bool) (pw mk : Bool) (lc : Nat) (lf : Option Nat) (cs : Nat) (gw gd gl : Nat → Int32) (dy lg : Nat → Bool) : Prop :=
  lc ≤ 24 ∧ (∀ j, lf = some j → j ≤ 1000) ∧ cs < 1000 ∧ EQ fd gd ∧ (pw = true → mk = false ∧ EQ fw gw ∧ ∀ b, b < 24 → dz b = dy b) ∧ (mk = true → lc = cnt lg 24 ∧ LR fb lq gl lg)
section PR
variable {fw fd fb gw gd gl : Nat → Int32} {lq dz dy lg : Nat → Bool} {pw mk : Bool} {lc cs : Nat} {lf : Option Nat}
theorem st_write (h : Rel fw fd fb lq dz pw mk lc lf cs gw gd gl dy lg) (b q v : Int32) : ∃ fw' dz' gw' dy' r, xwr fw dz pw b q v = (fw', dz', r) ∧ mwr gw dy (!pw) b q v = (gw', dy', r) ∧ Rel fw' fd fb lq dz' pw mk lc lf cs gw' gd gl dy' lg := by
  cases pw with
  | false => exact ⟨fw, dz, gw, dy, false, by simp [xwr], by simp [mwr], h⟩
  | true =>
    rcases ix_cases 24 (by decide) b with ⟨e1, -⟩ | ⟨i, hi, rfl, e1⟩
    · exact ⟨fw, dz, gw, dy, false, by simp [xwr, e1], by simp [mwr, e1], h⟩
    · rcases ix_cases 16 (by decide) q with ⟨e2, -⟩ | ⟨j, hj, rfl, e2⟩
      · exact ⟨fw, dz, gw, dy, false, by simp [xwr, e1, e2], by simp [mwr, e1, e2], h⟩
      · refine ⟨upd fw (i * 16 + j) (v &&& 255), va_up dz i true, upd gw (i * 16 + j) v.toInt8.toInt32, va_up dy i true, true, by simp [xwr, e1, e2], by simp [mwr, e1, e2], ?_⟩
        obtain ⟨h1, h2, h3, h5, h6, h7⟩ := h
        obtain ⟨g1, g2, g3⟩ := h6 rfl
        refine ⟨h1, h2, h3, h5, fun _ => ⟨g1, fun b i2 hb hi2 => ?_, fun b hb => ?_⟩, h7⟩
        · simp only [upd]
          split
          · exact (bp_b v).symm
          · exact g2 b i2 hb hi2
        · simp only [va_up]
          split
          · rfl
          · exact g3 b hb
theorem rd_eq {f g : Nat → Int32} (on : Bool) (h : on = true → EQ f g) (b q : Int32) : xrd on f b q = mrd (!on) g b q := by
  cases on with
  | false => simp [xrd, mrd]
  | true =>
    rcases ix_cases 24 (by decide) b with ⟨e1, -⟩ | ⟨i, hi, rfl, e1⟩
    · simp [xrd, mrd, e1]
    · rcases ix_cases 16 (by decide) q with ⟨e2, -⟩ | ⟨j, hj, rfl, e2⟩
      · simp [xrd, mrd, e1, e2]
      · simp [xrd, mrd, e1, e2, h rfl i j hi hj]
theorem dt_eq (h : Rel fw fd fb lq dz pw mk lc lf cs gw gd gl dy lg) (b : Int32) : xdt pw dz b = mdt (!pw) dy b := by
  cases pw with
  | false => simp [xdt, mdt]
  | true =>
    rcases ix_cases 24 (by decide) b with ⟨e1, -⟩ | ⟨i, hi, rfl, e1⟩
    · simp [xdt, mdt, e1]
    · simp [xdt, mdt, e1, (h.2.2.2.2.1 rfl).2.2 i hi]
theorem st_cut (h : Rel fw fd fb lq dz pw mk lc lf cs gw gd gl dy lg) (n t : Int32) : ∃ lf' cs' r, xct pw (lf.getD 0) cs n t = (lf'.getD 0, cs', r) ∧ mct (!pw) lf cs n t = (lf', cs', r) ∧ Rel fw fd fb lq dz pw mk lc lf' cs' gw gd gl dy lg := by
  cases pw with
  | false => exact ⟨lf, cs, false, by simp [xct], by simp [mct], h⟩
  | true =>
    rcases ix_cases 1001 (by decide) n with ⟨e1, -⟩ | ⟨k, hk, rfl, e1⟩
    · exact ⟨lf, cs, false, by simp [xct, e1], by simp [mct, e1], h⟩
    · match k, hk, e1 with
      | 0, _, e1 => exact ⟨lf, cs, false, by simp [xct, e1], by simp [mct, e1], h⟩
      | k + 1, hk, e1 =>
        rcases ix_cases 1000 (by decide) t with ⟨e2, -⟩ | ⟨j, hj, rfl, e2⟩
        · exact ⟨lf, cs, false, by simp [xct, e1, e2], by simp [mct, e1, e2], h⟩
        · obtain ⟨h1, h2, h3, h5, h6, h7⟩ := h
          exact ⟨some (k + 1), j, true, by simp [xct, e1, e2], by simp [mct, e1, e2], h1, fun z hz => by cases hz; omega, hj, h5, h6, h7⟩
theorem st_state (x : Int32) : xst pw mk lc x = mst (!pw) mk lc x := by
  rcases ix_cases 3 (by decide) x with ⟨e, -⟩ | ⟨j, hj, rfl, e⟩
  · simp only [xst, mst, e]
  · match j, hj, e with
    | 0, _, e => simp [xst, mst, e]
    | 1, _, e => simp [xst, mst, e]
    | 2, _, e => simp [xst, mst, e]
theorem st_revert (h : Rel fw fd fb lq dz pw mk lc lf cs gw gd gl dy lg) : Rel (bif pw then va_cpy fd fw 0 0 384 else fw) fd fb lq (bif pw then clr dz 24 else dz) pw mk lc lf cs (bif (!pw) then gw else frK gd gw 24) gd gl (bif (!pw) then dy else clr dy 24) lg := by
  cases pw with
  | false => exact h
  | true =>
    obtain ⟨h1, h2, h3, h5, h6, h7⟩ := h
    exact ⟨h1, h2, h3, h5, fun _ => ⟨(h6 rfl).1, fresh_rel fw gw h5, clr_rel dz dy⟩, h7⟩
theorem lfD_getD (lf : Option Nat) : (lfD lf).getD 0 = lf.getD 0 - 1 := by
  match lf with
  | none => rfl
  | some 0 => rfl
  | some (k + 1) => rfl
theorem lfD_le (h : ∀ j, lf = some j → j ≤ 1000) : ∀ j, lfD lf = some j → j ≤ 1000 := by
  intro j hj
  match lf, h with
  | none, _ => cases hj
  | some 0, _ => cases hj
  | some (k + 1), h =>
    have e : k = j := Option.some.inj hj
    have := h (k + 1) rfl
    omega
theorem getD_le (h : ∀ j, lf = some j → j ≤ 1000) : lf.getD 0 ≤ 1000 := by
  cases lf with
  | none => decide
  | some j => exact h j rfl
theorem tkS_go (h : lf ≠ some 1) : tkS (lf.getD 0) cs = 1000 := by
  match lf, h with
  | none, _ => rfl
  | some 0, _ => rfl
  | some 1, h => exact absurd rfl h
  | some (k + 2), _ => simp [tkS]
theorem st_go (h : Rel fw fd fb lq dz true mk lc lf cs gw gd gl dy lg) : Rel fw (lx (lx fw dz (cnt dz 24) fb 24) (lqK dz (cnt dz 24) lq 24) (cnt dz 24) fd 24) (lx fw dz (cnt dz 24) fb 24) (lqK dz (cnt dz 24) lq 24) (clr dz 24) true false (cnt dz 24) (lfD lf) cs gw (lyK (ntK gw dy gl 24) (lgK dy lg 24) (cnt dz 24) gd 24) (ntK gw dy gl 24) (clr dy 24) (lgK dy lg 24) := by
  obtain ⟨h1, h2, h3, h5, h6, h7⟩ := h
  obtain ⟨g1, g2, g3⟩ := h6 rfl
  exact ⟨cnt_le dz 24, lfD_le h2, h3, disk_rel _ (log_rel g2 g3) h5, fun _ => ⟨rfl, g2, clr_rel dz dy⟩, fun q => absurd q (by decide)⟩
theorem st_low (h : Rel fw fd fb lq dz true mk lc lf cs gw gd gl dy lg) (mo : Nat) (lf' : Option Nat) (hlf : ∀ j, lf' = some j → j ≤ 1000) : Rel fw fd (lx fw dz mo fb 24) (lqK dz mo lq 24) (clr dz 24) false false (cnt dz 24) lf' cs gw gd gl dy lg := by
  obtain ⟨h1, h2, h3, h5, h6, h7⟩ := h
  exact ⟨cnt_le dz 24, hlf, h3, h5, fun q => absurd q (by decide), fun q => absurd q (by decide)⟩
theorem st_mid (h : Rel fw fd fb lq dz true mk lc lf cs gw gd gl dy lg) (mo : Nat) (lf' : Option Nat) (hlf : ∀ j, lf' = some j → j ≤ 1000) : Rel fw (lx (lx fw dz (cnt dz 24) fb 24) (lqK dz (cnt dz 24) lq 24) mo fd 24) (lx fw dz (cnt dz 24) fb 24) (lqK dz (cnt dz 24) lq 24) (clr dz 24) false true (cnt dz 24) lf' cs gw (lyK (ntK gw dy gl 24) (lgK dy lg 24) mo gd 24) (ntK gw dy gl 24) (clr dy 24) (lgK dy lg 24) := by
  obtain ⟨h1, h2, h3, h5, h6, h7⟩ := h
  obtain ⟨g1, g2, g3⟩ := h6 rfl
  exact ⟨cnt_le dz 24, hlf, h3, disk_rel _ (log_rel g2 g3) h5, fun q => absurd q (by decide), fun _ => ⟨(lgK_cnt g3).symm, log_rel g2 g3⟩⟩
theorem sd_rel (h : Rel fw fd fb lq dz pw mk lc lf cs gw gd gl dy lg) {t : Nat} (ht : t ≤ 1000) : EQ (xsd mk fb lq fd lc t) (msd mk gl lg gd t) := by
  obtain ⟨h1, h2, h3, h5, h6, h7⟩ := h
  cases mk with
  | false => exact h5
  | true =>
    obtain ⟨g1, g2⟩ := h7 rfl
    simp only [xsd, msd, cond_true]
    rw [g1]
    exact disk_rel _ g2 h5
theorem st_scut (h : Rel fw fd fb lq dz false mk lc lf cs gw gd gl dy lg) {t : Nat} (ht : t ≤ 1000) : Rel fw (xsd mk fb lq fd lc t) fb lq dz false mk lc lf cs gw (msd mk gl lg gd t) gl dy lg := by
  have h0 := sd_rel h ht
  obtain ⟨h1, h2, h3, h5, h6, h7⟩ := h
  exact ⟨h1, h2, h3, h0, h6, h7⟩
theorem st_son (h : Rel fw fd fb lq dz false mk lc lf cs gw gd gl dy lg) : Rel (va_cpy (xsd mk fb lq fd lc 1000) fw 0 0 384) (xsd mk fb lq fd lc 1000) fb lq (clr dz 24) true false lc lf cs (frK (msd mk gl lg gd 1000) gw 24) (msd mk gl lg gd 1000) gl (clr dy 24) lg := by
  have h0 := sd_rel h (Nat.le_refl 1000)
  obtain ⟨h1, h2, h3, h5, h6, h7⟩ := h
  exact ⟨h1, h2, h3, h0, fun _ => ⟨rfl, fresh_rel fw gw h0, clr_rel dz dy⟩, fun q => absurd q (by decide)⟩
end PR
end
section
/-! Each call, of both: they answer alike, and what ties them stays. -/
set_option maxHeartbeats 4000000 in
set_option maxRecDepth 100000 in
theorem j_write (l : Launch) (D : va_G) (x0 x1 x2 x3 x4 x5 : Nat) (r1 r2 r3 r4 r5 : ClassId) (z0 z1 z2 z3 z4 z5 : Nat) (t1 t2 t3 t4 t5 : ClassId) (fw fd fb : Nat → Int32) (lq dz : Nat → Bool) (pw mk : Bool) (lc : Nat) (lf : Option Nat) (cs : Nat) (gw gd gl : Nat → Int32) (dy lg : Nat → Bool) (h : Rel fw fd fb lq dz pw mk lc lf cs gw gd gl dy lg) (v1 v2 v3 : Int32) : ∃ (fw9 fd9 fb9 : Nat → Int32) (lq9 dz9 : Nat → Bool) (pw9 mk9 : Bool) (lc9 : Nat) (lf9 : Option Nat) (cs9 : Nat) (gw9 gd9 gl9 : Nat → Int32) (dy9 lg9 : Nat → Bool) (a9 : Int32), ct_i l yX0_write wsX0_write ({ frames := 1, cells := 0, slots := 0, locals := 20 }) D vwCl (XT r1 r2 r3 r4 r5) [.ref x0, .int v1, .int v2, .int v3] (XW x0 x1 x2 x3 x4 x5 r1 r2 r3 r4 r5 fw fd fb lq dz pw mk lc (lf.getD 0) cs) (XW x0 x1 x2 x3 x4 x5 r1 r2 r3 r4 r5 fw9 fd9 fb9 lq9 dz9 pw9 mk9 lc9 (lf9.getD 0) cs9) a9 ∧ ct_i l yX1_write wsX1_write ({ frames := 2, cells := 0, slots := 0, locals := 43 }) D vwCl (MT t1 t2 t3 t4 t5) [.ref z0, .int v1, .int v2, .int v3] (MW z0 z1 z2 z3 z4 z5 t1 t2 t3 t4 t5 gw gd gl dy lg (!pw) mk lc lf cs) (MW z0 z1 z2 z3 z4 z5 t1 t2 t3 t4 t5 gw9 gd9 gl9 dy9 lg9 (!pw9) mk9 lc9 lf9 cs9) a9 ∧ Rel fw9 fd9 fb9 lq9 dz9 pw9 mk9 lc9 lf9 cs9 gw9 gd9 gl9 dy9 lg9 := by
  obtain ⟨fw', dz', gw', dy', r, e1, e2, hR⟩ := st_write h v1 v2 v3
  have hX := c0_write l D x0 x1 x2 x3 x4 x5 r1 r2 r3 r4 r5 fw fd fb lq dz pw mk lc (lf.getD 0) cs v1 v2 v3
  rw [e1] at hX
  have hM := c1_write l D z0 z1 z2 z3 z4 z5 t1 t2 t3 t4 t5 gw gd gl dy lg (!pw) mk lc lf cs v1 v2 v3
  rw [e2] at hM
  exact ⟨fw', fd, fb, lq, dz', pw, mk, lc, lf, cs, gw', gd, gl, dy', lg, bI r, hX, hM, hR⟩
set_option maxHeartbeats 4000000 in
set_option maxRecDepth 100000 in
theorem j_read (l : Launch) (D : va_G) (x0 x1 x2 x3 x4 x5 : Nat) (r1 r2 r3 r4 r5 : ClassId) (z0 z1 z2 z3 z4 z5 : Nat) (t1 t2 t3 t4 t5 : ClassId) (fw fd fb : Nat → Int32) (lq dz : Nat → Bool) (pw mk : Bool) (lc : Nat) (lf : Option Nat) (cs : Nat) (gw gd gl : Nat → Int32) (dy lg : Nat → Bool) (h : Rel fw fd fb lq dz pw mk lc lf cs gw gd gl dy lg) (v1 v2 : Int32) : ∃ (fw9 fd9 fb9 : Nat → Int32) (lq9 dz9 : Nat → Bool) (pw9 mk9 : Bool) (lc9 : Nat) (lf9 : Option Nat) (cs9 : Nat) (gw9 gd9 gl9 : Nat → Int32) (dy9 lg9 : Nat → Bool) (a9 : Int32), ct_i l yX0_read wsX0_read ({ frames := 1, cells := 0, slots := 0, locals := 20 }) D vwCl (XT r1 r2 r3 r4 r5) [.ref x0, .int v1, .int v2] (XW x0 x1 x2 x3 x4 x5 r1 r2 r3 r4 r5 fw fd fb lq dz pw mk lc (lf.getD 0) cs) (XW x0 x1 x2 x3 x4 x5 r1 r2 r3 r4 r5 fw9 fd9 fb9 lq9 dz9 pw9 mk9 lc9 (lf9.getD 0) cs9) a9 ∧ ct_i l yX1_read wsX1_read ({ frames := 2, cells := 0, slots := 0, locals := 43 }) D vwCl (MT t1 t2 t3 t4 t5) [.ref z0, .int v1, .int v2] (MW z0 z1 z2 z3 z4 z5 t1 t2 t3 t4 t5 gw gd gl dy lg (!pw) mk lc lf cs) (MW z0 z1 z2 z3 z4 z5 t1 t2 t3 t4 t5 gw9 gd9 gl9 dy9 lg9 (!pw9) mk9 lc9 lf9 cs9) a9 ∧ Rel fw9 fd9 fb9 lq9 dz9 pw9 mk9 lc9 lf9 cs9 gw9 gd9 gl9 dy9 lg9 := by
  have hX := c0_read l D x0 x1 x2 x3 x4 x5 r1 r2 r3 r4 r5 fw fd fb lq dz pw mk lc (lf.getD 0) cs v1 v2
  have hM := c1_read l D z0 z1 z2 z3 z4 z5 t1 t2 t3 t4 t5 gw gd gl dy lg (!pw) mk lc lf cs v1 v2
  rw [← rd_eq pw (fun q => (h.2.2.2.2.1 q).2.1) v1 v2] at hM
  exact ⟨fw, fd, fb, lq, dz, pw, mk, lc, lf, cs, gw, gd, gl, dy, lg, _, hX, hM, h⟩
set_option maxHeartbeats 4000000 in
set_option maxRecDepth 100000 in
theorem j_disk (l : Launch) (D : va_G) (x0 x1 x2 x3 x4 x5 : Nat) (r1 r2 r3 r4 r5 : ClassId) (z0 z1 z2 z3 z4 z5 : Nat) (t1 t2 t3 t4 t5 : ClassId) (fw fd fb : Nat → Int32) (lq dz : Nat → Bool) (pw mk : Bool) (lc : Nat) (lf : Option Nat) (cs : Nat) (gw gd gl : Nat → Int32) (dy lg : Nat → Bool) (h : Rel fw fd fb lq dz pw mk lc lf cs gw gd gl dy lg) (v1 v2 : Int32) : ∃ (fw9 fd9 fb9 : Nat → Int32) (lq9 dz9 : Nat → Bool) (pw9 mk9 : Bool) (lc9 : Nat) (lf9 : Option Nat) (cs9 : Nat) (gw9 gd9 gl9 : Nat → Int32) (dy9 lg9 : Nat → Bool) (a9 : Int32), ct_i l yX0_disk wsX0_disk ({ frames := 1, cells := 0, slots := 0, locals := 20 }) D vwCl (XT r1 r2 r3 r4 r5) [.ref x0, .int v1, .int v2] (XW x0 x1 x2 x3 x4 x5 r1 r2 r3 r4 r5 fw fd fb lq dz pw mk lc (lf.getD 0) cs) (XW x0 x1 x2 x3 x4 x5 r1 r2 r3 r4 r5 fw9 fd9 fb9 lq9 dz9 pw9 mk9 lc9 (lf9.getD 0) cs9) a9 ∧ ct_i l yX1_disk wsX1_disk ({ frames := 2, cells := 0, slots := 0, locals := 43 }) D vwCl (MT t1 t2 t3 t4 t5) [.ref z0, .int v1, .int v2] (MW z0 z1 z2 z3 z4 z5 t1 t2 t3 t4 t5 gw gd gl dy lg (!pw) mk lc lf cs) (MW z0 z1 z2 z3 z4 z5 t1 t2 t3 t4 t5 gw9 gd9 gl9 dy9 lg9 (!pw9) mk9 lc9 lf9 cs9) a9 ∧ Rel fw9 fd9 fb9 lq9 dz9 pw9 mk9 lc9 lf9 cs9 gw9 gd9 gl9 dy9 lg9 := by
  have hX := c0_disk l D x0 x1 x2 x3 x4 x5 r1 r2 r3 r4 r5 fw fd fb lq dz pw mk lc (lf.getD 0) cs v1 v2
  have hM := c1_disk l D z0 z1 z2 z3 z4 z5 t1 t2 t3 t4 t5 gw gd gl dy lg (!pw) mk lc lf cs v1 v2
  have e := rd_eq (f := fd) (g := gd) true (fun _ => h.2.2.2.1) v1 v2
  have e : xrd true fd v1 v2 = mrd false gd v1 v2 := e
  rw [← e] at hM
  exact ⟨fw, fd, fb, lq, dz, pw, mk, lc, lf, cs, gw, gd, gl, dy, lg, _, hX, hM, h⟩
set_option maxHeartbeats 4000000 in
set_option maxRecDepth 100000 in
theorem j_dirty (l : Launch) (D : va_G) (x0 x1 x2 x3 x4 x5 : Nat) (r1 r2 r3 r4 r5 : ClassId) (z0 z1 z2 z3 z4 z5 : Nat) (t1 t2 t3 t4 t5 : ClassId) (fw fd fb : Nat → Int32) (lq dz : Nat → Bool) (pw mk : Bool) (lc : Nat) (lf : Option Nat) (cs : Nat) (gw gd gl : Nat → Int32) (dy lg : Nat → Bool) (h : Rel fw fd fb lq dz pw mk lc lf cs gw gd gl dy lg) (v1 : Int32) : ∃ (fw9 fd9 fb9 : Nat → Int32) (lq9 dz9 : Nat → Bool) (pw9 mk9 : Bool) (lc9 : Nat) (lf9 : Option Nat) (cs9 : Nat) (gw9 gd9 gl9 : Nat → Int32) (dy9 lg9 : Nat → Bool) (a9 : Int32), ct_i l yX0_dirty wsX0_dirty ({ frames := 1, cells := 0, slots := 0, locals := 20 }) D vwCl (XT r1 r2 r3 r4 r5) [.ref x0, .int v1] (XW x0 x1 x2 x3 x4 x5 r1 r2 r3 r4 r5 fw fd fb lq dz pw mk lc (lf.getD 0) cs) (XW x0 x1 x2 x3 x4 x5 r1 r2 r3 r4 r5 fw9 fd9 fb9 lq9 dz9 pw9 mk9 lc9 (lf9.getD 0) cs9) a9 ∧ ct_i l yX1_dirty wsX1_dirty ({ frames := 2, cells := 0, slots := 0, locals := 43 }) D vwCl (MT t1 t2 t3 t4 t5) [.ref z0, .int v1] (MW z0 z1 z2 z3 z4 z5 t1 t2 t3 t4 t5 gw gd gl dy lg (!pw) mk lc lf cs) (MW z0 z1 z2 z3 z4 z5 t1 t2 t3 t4 t5 gw9 gd9 gl9 dy9 lg9 (!pw9) mk9 lc9 lf9 cs9) a9 ∧ Rel fw9 fd9 fb9 lq9 dz9 pw9 mk9 lc9 lf9 cs9 gw9 gd9 gl9 dy9 lg9 := by
  have hX := c0_dirty l D x0 x1 x2 x3 x4 x5 r1 r2 r3 r4 r5 fw fd fb lq dz pw mk lc (lf.getD 0) cs v1
  have hM := c1_dirty l D z0 z1 z2 z3 z4 z5 t1 t2 t3 t4 t5 gw gd gl dy lg (!pw) mk lc lf cs v1
  rw [← dt_eq h v1] at hM
  exact ⟨fw, fd, fb, lq, dz, pw, mk, lc, lf, cs, gw, gd, gl, dy, lg, _, hX, hM, h⟩
set_option maxHeartbeats 4000000 in
set_option maxRecDepth 100000 in
theorem j_revert (l : Launch) (D : va_G) (x0 x1 x2 x3 x4 x5 : Nat) (r1 r2 r3 r4 r5 : ClassId) (z0 z1 z2 z3 z4 z5 : Nat) (t1 t2 t3 t4 t5 : ClassId) (fw fd fb : Nat → Int32) (lq dz : Nat → Bool) (pw mk : Bool) (lc : Nat) (lf : Option Nat) (cs : Nat) (gw gd gl : Nat → Int32) (dy lg : Nat → Bool) (h : Rel fw fd fb lq dz pw mk lc lf cs gw gd gl dy lg) : ∃ (fw9 fd9 fb9 : Nat → Int32) (lq9 dz9 : Nat → Bool) (pw9 mk9 : Bool) (lc9 : Nat) (lf9 : Option Nat) (cs9 : Nat) (gw9 gd9 gl9 : Nat → Int32) (dy9 lg9 : Nat → Bool) (a9 : Int32), ct_i l yX0_revert wsX0_revert ({ frames := 2, cells := 0, slots := 0, locals := 41 }) D vwCl (XT r1 r2 r3 r4 r5) [.ref x0] (XW x0 x1 x2 x3 x4 x5 r1 r2 r3 r4 r5 fw fd fb lq dz pw mk lc (lf.getD 0) cs) (XW x0 x1 x2 x3 x4 x5 r1 r2 r3 r4 r5 fw9 fd9 fb9 lq9 dz9 pw9 mk9 lc9 (lf9.getD 0) cs9) a9 ∧ ct_i l yX1_revert wsX1_revert ({ frames := 2, cells := 0, slots := 0, locals := 46 }) D vwCl (MT t1 t2 t3 t4 t5) [.ref z0] (MW z0 z1 z2 z3 z4 z5 t1 t2 t3 t4 t5 gw gd gl dy lg (!pw) mk lc lf cs) (MW z0 z1 z2 z3 z4 z5 t1 t2 t3 t4 t5 gw9 gd9 gl9 dy9 lg9 (!pw9) mk9 lc9 lf9 cs9) a9 ∧ Rel fw9 fd9 fb9 lq9 dz9 pw9 mk9 lc9 lf9 cs9 gw9 gd9 gl9 dy9 lg9 := by
  have hX := c0_revert l D x0 x1 x2 x3 x4 x5 r1 r2 r3 r4 r5 fw fd fb lq dz pw mk lc (lf.getD 0) cs 
  have hM := c1_revert l D z0 z1 z2 z3 z4 z5 t1 t2 t3 t4 t5 gw gd gl dy lg (!pw) mk lc lf cs 
  have e : (!(!pw)) = pw := Bool.not_not pw
  rw [e] at hM
  exact ⟨_, _, _, _, _, _, _, _, _, _, _, _, _, _, _, _, hX, hM, st_revert h⟩
set_option maxHeartbeats 4000000 in
set_option maxRecDepth 100000 in
theorem j_cut (l : Launch) (D : va_G) (x0 x1 x2 x3 x4 x5 : Nat) (r1 r2 r3 r4 r5 : ClassId) (z0 z1 z2 z3 z4 z5 : Nat) (t1 t2 t3 t4 t5 : ClassId) (fw fd fb : Nat → Int32) (lq dz : Nat → Bool) (pw mk : Bool) (lc : Nat) (lf : Option Nat) (cs : Nat) (gw gd gl : Nat → Int32) (dy lg : Nat → Bool) (h : Rel fw fd fb lq dz pw mk lc lf cs gw gd gl dy lg) (v1 v2 : Int32) : ∃ (fw9 fd9 fb9 : Nat → Int32) (lq9 dz9 : Nat → Bool) (pw9 mk9 : Bool) (lc9 : Nat) (lf9 : Option Nat) (cs9 : Nat) (gw9 gd9 gl9 : Nat → Int32) (dy9 lg9 : Nat → Bool) (a9 : Int32), ct_i l yX0_cut wsX0_cut ({ frames := 0, cells := 0, slots := 0, locals := 0 }) D vwCl (XT r1 r2 r3 r4 r5) [.ref x0, .int v1, .int v2] (XW x0 x1 x2 x3 x4 x5 r1 r2 r3 r4 r5 fw fd fb lq dz pw mk lc (lf.getD 0) cs) (XW x0 x1 x2 x3 x4 x5 r1 r2 r3 r4 r5 fw9 fd9 fb9 lq9 dz9 pw9 mk9 lc9 (lf9.getD 0) cs9) a9 ∧ ct_i l yX1_cut wsX1_cut ({ frames := 1, cells := 0, slots := 0, locals := 22 }) D vwCl (MT t1 t2 t3 t4 t5) [.ref z0, .int v1, .int v2] (MW z0 z1 z2 z3 z4 z5 t1 t2 t3 t4 t5 gw gd gl dy lg (!pw) mk lc lf cs) (MW z0 z1 z2 z3 z4 z5 t1 t2 t3 t4 t5 gw9 gd9 gl9 dy9 lg9 (!pw9) mk9 lc9 lf9 cs9) a9 ∧ Rel fw9 fd9 fb9 lq9 dz9 pw9 mk9 lc9 lf9 cs9 gw9 gd9 gl9 dy9 lg9 := by
  obtain ⟨lf', cs', r, e1, e2, hR⟩ := st_cut h v1 v2
  have hX := c0_cut l D x0 x1 x2 x3 x4 x5 r1 r2 r3 r4 r5 fw fd fb lq dz pw mk lc (lf.getD 0) cs v1 v2
  rw [e1] at hX
  have hM := c1_cut l D z0 z1 z2 z3 z4 z5 t1 t2 t3 t4 t5 gw gd gl dy lg (!pw) mk lc lf cs v1 v2
  rw [e2] at hM
  exact ⟨fw, fd, fb, lq, dz, pw, mk, lc, lf', cs', gw, gd, gl, dy, lg, bI r, hX, hM, hR⟩
set_option maxHeartbeats 4000000 in
set_option maxRecDepth 100000 in
theorem j_state (l : Launch) (D : va_G) (x0 x1 x2 x3 x4 x5 : Nat) (r1 r2 r3 r4 r5 : ClassId) (z0 z1 z2 z3 z4 z5 : Nat) (t1 t2 t3 t4 t5 : ClassId) (fw fd fb : Nat → Int32) (lq dz : Nat → Bool) (pw mk : Bool) (lc : Nat) (lf : Option Nat) (cs : Nat) (gw gd gl : Nat → Int32) (dy lg : Nat → Bool) (h : Rel fw fd fb lq dz pw mk lc lf cs gw gd gl dy lg) (v1 : Int32) : ∃ (fw9 fd9 fb9 : Nat → Int32) (lq9 dz9 : Nat → Bool) (pw9 mk9 : Bool) (lc9 : Nat) (lf9 : Option Nat) (cs9 : Nat) (gw9 gd9 gl9 : Nat → Int32) (dy9 lg9 : Nat → Bool) (a9 : Int32), ct_i l yX0_state wsX0_state ({ frames := 0, cells := 0, slots := 0, locals := 0 }) D vwCl (XT r1 r2 r3 r4 r5) [.ref x0, .int v1] (XW x0 x1 x2 x3 x4 x5 r1 r2 r3 r4 r5 fw fd fb lq dz pw mk lc (lf.getD 0) cs) (XW x0 x1 x2 x3 x4 x5 r1 r2 r3 r4 r5 fw9 fd9 fb9 lq9 dz9 pw9 mk9 lc9 (lf9.getD 0) cs9) a9 ∧ ct_i l yX1_state wsX1_state ({ frames := 0, cells := 0, slots := 0, locals := 0 }) D vwCl (MT t1 t2 t3 t4 t5) [.ref z0, .int v1] (MW z0 z1 z2 z3 z4 z5 t1 t2 t3 t4 t5 gw gd gl dy lg (!pw) mk lc lf cs) (MW z0 z1 z2 z3 z4 z5 t1 t2 t3 t4 t5 gw9 gd9 gl9 dy9 lg9 (!pw9) mk9 lc9 lf9 cs9) a9 ∧ Rel fw9 fd9 fb9 lq9 dz9 pw9 mk9 lc9 lf9 cs9 gw9 gd9 gl9 dy9 lg9 := by
  have hX := c0_state l D x0 x1 x2 x3 x4 x5 r1 r2 r3 r4 r5 fw fd fb lq dz pw mk lc (lf.getD 0) cs v1
  have hM := c1_state l D z0 z1 z2 z3 z4 z5 t1 t2 t3 t4 t5 gw gd gl dy lg (!pw) mk lc lf cs v1
  rw [← st_state v1] at hM
  exact ⟨fw, fd, fb, lq, dz, pw, mk, lc, lf, cs, gw, gd, gl, dy, lg, _, hX, hM, h⟩
set_option maxHeartbeats 4000000 in
set_option maxRecDepth 100000 in
theorem j_commit (l : Launch) (D : va_G) (x0 x1 x2 x3 x4 x5 : Nat) (r1 r2 r3 r4 r5 : ClassId) (z0 z1 z2 z3 z4 z5 : Nat) (t1 t2 t3 t4 t5 : ClassId) (fw fd fb : Nat → Int32) (lq dz : Nat → Bool) (pw mk : Bool) (lc : Nat) (lf : Option Nat) (cs : Nat) (gw gd gl : Nat → Int32) (dy lg : Nat → Bool) (h : Rel fw fd fb lq dz pw mk lc lf cs gw gd gl dy lg) : ∃ (fw9 fd9 fb9 : Nat → Int32) (lq9 dz9 : Nat → Bool) (pw9 mk9 : Bool) (lc9 : Nat) (lf9 : Option Nat) (cs9 : Nat) (gw9 gd9 gl9 : Nat → Int32) (dy9 lg9 : Nat → Bool) (a9 : Int32), ct_i l yX0_commit wsX0_commit ({ frames := 3, cells := 0, slots := 0, locals := 64 }) D vwCl (XT r1 r2 r3 r4 r5) [.ref x0] (XW x0 x1 x2 x3 x4 x5 r1 r2 r3 r4 r5 fw fd fb lq dz pw mk lc (lf.getD 0) cs) (XW x0 x1 x2 x3 x4 x5 r1 r2 r3 r4 r5 fw9 fd9 fb9 lq9 dz9 pw9 mk9 lc9 (lf9.getD 0) cs9) a9 ∧ ct_i l yX1_commit wsX1_commit ({ frames := 2, cells := 0, slots := 0, locals := 46 }) D vwCl (MT t1 t2 t3 t4 t5) [.ref z0] (MW z0 z1 z2 z3 z4 z5 t1 t2 t3 t4 t5 gw gd gl dy lg (!pw) mk lc lf cs) (MW z0 z1 z2 z3 z4 z5 t1 t2 t3 t4 t5 gw9 gd9 gl9 dy9 lg9 (!pw9) mk9 lc9 lf9 cs9) a9 ∧ Rel fw9 fd9 fb9 lq9 dz9 pw9 mk9 lc9 lf9 cs9 gw9 gd9 gl9 dy9 lg9 := by
  cases pw with
  | false =>
    have hX := c0_commit_off l D x0 x1 x2 x3 x4 x5 r1 r2 r3 r4 r5 fw fd fb lq dz mk lc (lf.getD 0) cs 
    have hM := c1_commit_off l D z0 z1 z2 z3 z4 z5 t1 t2 t3 t4 t5 gw gd gl dy lg mk lc lf cs 
    exact ⟨fw, fd, fb, lq, dz, false, mk, lc, lf, cs, gw, gd, gl, dy, lg, bI false, hX, hM, h⟩
  | true =>
    obtain ⟨h1, h2, h3, h5, h6, h7⟩ := id h
    have e1 : cnt dy 24 = cnt dz 24 := (cnt_congr 24 (h6 rfl).2.2).symm
    have hmk := (h6 rfl).1
    subst hmk
    by_cases hl : lf = some 1
    · subst hl
      have et : tkS 1 cs = cs := by simp [tkS]
      rcases Nat.lt_or_ge cs 500 with h8 | h8
      · have hX := c0_commit_low l D x0 x1 x2 x3 x4 x5 r1 r2 r3 r4 r5 fw fd fb lq dz false lc 1 cs (by decide) h3 (by rw [et]; exact h8)
        have hM := c1_commit_low l D z0 z1 z2 z3 z4 z5 t1 t2 t3 t4 t5 gw gd gl dy lg false lc cs h3 h8
        rw [e1] at hM
        exact ⟨fw, fd, _, _, clr dz 24, false, false, cnt dz 24, some 0, cs, gw, gd, gl, dy, lg, bI false, hX, hM, st_low h _ (some 0) (fun j hj => by cases hj; decide)⟩
      · have hX := c0_commit_mid l D x0 x1 x2 x3 x4 x5 r1 r2 r3 r4 r5 fw fd fb lq dz false lc 1 cs (by decide) h3 (by rw [et]; exact h8) (by rw [et]; exact h3)
        rw [et] at hX
        have hM := c1_commit_mid l D z0 z1 z2 z3 z4 z5 t1 t2 t3 t4 t5 gw gd gl dy lg false lc cs h3 h8
        rw [e1] at hM
        exact ⟨fw, _, _, _, clr dz 24, false, true, cnt dz 24, some 0, cs, gw, _, _, clr dy 24, lgK dy lg 24, bI false, hX, hM, st_mid h (cnt dz 24 * (cs - 500) / 500) (some 0) (fun j hj => by cases hj; decide)⟩
    · have et := tkS_go (cs := cs) hl
      have hX := c0_commit_full l D x0 x1 x2 x3 x4 x5 r1 r2 r3 r4 r5 fw fd fb lq dz false lc (lf.getD 0) cs (getD_le h2) h3 (by rw [et]; decide) et
      rw [et, show cnt dz 24 * (1000 - 500) / 500 = cnt dz 24 by omega, ← lfD_getD] at hX
      have hM := c1_commit_go l D z0 z1 z2 z3 z4 z5 t1 t2 t3 t4 t5 gw gd gl dy lg false lc lf cs hl h2 h3
      rw [e1] at hM
      exact ⟨_, _, _, _, _, _, _, _, _, _, _, _, _, _, _, _, hX, hM, st_go h⟩
set_option maxHeartbeats 4000000 in
set_option maxRecDepth 100000 in
theorem j_start (l : Launch) (D : va_G) (x0 x1 x2 x3 x4 x5 : Nat) (r1 r2 r3 r4 r5 : ClassId) (z0 z1 z2 z3 z4 z5 : Nat) (t1 t2 t3 t4 t5 : ClassId) (fw fd fb : Nat → Int32) (lq dz : Nat → Bool) (pw mk : Bool) (lc : Nat) (lf : Option Nat) (cs : Nat) (gw gd gl : Nat → Int32) (dy lg : Nat → Bool) (h : Rel fw fd fb lq dz pw mk lc lf cs gw gd gl dy lg) (v1 : Int32) : ∃ (fw9 fd9 fb9 : Nat → Int32) (lq9 dz9 : Nat → Bool) (pw9 mk9 : Bool) (lc9 : Nat) (lf9 : Option Nat) (cs9 : Nat) (gw9 gd9 gl9 : Nat → Int32) (dy9 lg9 : Nat → Bool) (a9 : Int32), ct_i l yX0_start wsX0_start ({ frames := 3, cells := 0, slots := 0, locals := 64 }) D vwCl (XT r1 r2 r3 r4 r5) [.ref x0, .int v1] (XW x0 x1 x2 x3 x4 x5 r1 r2 r3 r4 r5 fw fd fb lq dz pw mk lc (lf.getD 0) cs) (XW x0 x1 x2 x3 x4 x5 r1 r2 r3 r4 r5 fw9 fd9 fb9 lq9 dz9 pw9 mk9 lc9 (lf9.getD 0) cs9) a9 ∧ ct_i l yX1_start wsX1_start ({ frames := 2, cells := 0, slots := 0, locals := 46 }) D vwCl (MT t1 t2 t3 t4 t5) [.ref z0, .int v1] (MW z0 z1 z2 z3 z4 z5 t1 t2 t3 t4 t5 gw gd gl dy lg (!pw) mk lc lf cs) (MW z0 z1 z2 z3 z4 z5 t1 t2 t3 t4 t5 gw9 gd9 gl9 dy9 lg9 (!pw9) mk9 lc9 lf9 cs9) a9 ∧ Rel fw9 fd9 fb9 lq9 dz9 pw9 mk9 lc9 lf9 cs9 gw9 gd9 gl9 dy9 lg9 := by
  rcases ix_cases 1001 (by decide) v1 with ⟨e1, h9⟩ | ⟨t, ht, rfl, e1⟩
  · have hX := c0_start_no l D x0 x1 x2 x3 x4 x5 r1 r2 r3 r4 r5 fw fd fb lq dz pw mk lc (lf.getD 0) cs v1 (Or.inr h9)
    have hM := c1_start_no l D z0 z1 z2 z3 z4 z5 t1 t2 t3 t4 t5 gw gd gl dy lg (!pw) mk lc lf cs v1 (Or.inr h9)
    exact ⟨fw, fd, fb, lq, dz, pw, mk, lc, lf, cs, gw, gd, gl, dy, lg, _, hX, hM, h⟩
  · cases pw with
    | true =>
      have hX := c0_start_no l D x0 x1 x2 x3 x4 x5 r1 r2 r3 r4 r5 fw fd fb lq dz true mk lc (lf.getD 0) cs (nI t) (Or.inl rfl)
      have hM := c1_start_no l D z0 z1 z2 z3 z4 z5 t1 t2 t3 t4 t5 gw gd gl dy lg false mk lc lf cs (nI t) (Or.inl rfl)
      exact ⟨fw, fd, fb, lq, dz, true, mk, lc, lf, cs, gw, gd, gl, dy, lg, bI false, hX, hM, h⟩
    | false =>
      rcases Nat.lt_or_ge t 1000 with h8 | h8
      · have hX := c0_start_cut l D x0 x1 x2 x3 x4 x5 r1 r2 r3 r4 r5 fw fd fb lq dz mk lc (lf.getD 0) cs t h8 h.1
        have hM := c1_start_cut l D z0 z1 z2 z3 z4 z5 t1 t2 t3 t4 t5 gw gd gl dy lg mk lc lf cs t h8
        exact ⟨fw, _, fb, lq, dz, false, mk, lc, lf, cs, gw, _, gl, dy, lg, bI false, hX, hM, st_scut h (by omega)⟩
      · obtain rfl : t = 1000 := by omega
        have hX := c0_start_on l D x0 x1 x2 x3 x4 x5 r1 r2 r3 r4 r5 fw fd fb lq dz mk lc (lf.getD 0) cs h.1
        have hM := c1_start_on l D z0 z1 z2 z3 z4 z5 t1 t2 t3 t4 t5 gw gd gl dy lg mk lc lf cs 
        exact ⟨_, _, fb, lq, _, true, false, lc, lf, cs, _, _, gl, _, lg, bI true, hX, hM, st_son h⟩
end
section
/-! THE CLAIM OUT OF ONE WALK OF THE LAW'S BODY. Your part is whole_start (and what it stands on); all else here is the same for every law, but numbers. -/
def R_law : String := "CommitLogLaw"
def lw_P (b : Addr) (xs : List Int32) (args : Array Value) (s : State) : Prop := args = #[.ref b] ∧ s.IntsAt b xs ∧ xs.length ≤ 2048 ∧ (Jvm.Cond.and given_1 narrow_1).before args s = true
def lw_Q (_ : Array Value) (s : State) (o : Outcome) (t : State) : Prop := o = .returned (some (.int 1)) ∧ Framed s o t [] 12 2420
def lw_Z (below : List Frame) (a : Array Value) (s : State) : State → Prop := fun t => ∃ o, t.status = .running ∧ Ended t below o ∧ lw_Q a s o t
/-- the law's own end, with 1 on the stack, nothing written that was there before, its room as the claim has it -/
theorem lw_ret {p : Program} {l : Launch} {e : Env} {s : State} {m : MethodId} {below : List Frame} {meth : Method} {c : Code} {b : Nat} (hx : p.tables.exec = Jvm.exec) (hb : c.code = code) (hr : meth.sig.returnType = ret) (hlocks : meth.locks = false) {pc : Nat} {H : Heap} {ls : Array Slot} (hdg : decode code pc = .ok (.ireturn, 1)) : W p l e room_1 s m #[Value.ref b] below meth c H [] 12 2420 (lw_Z below #[Value.ref b] s) (F0 m pc ls [.int 1]) := by
  intro T hT X
  obtain ⟨fs, hret, hrun, hended, hW, hframe⟩ := X.leave (v := some (.int 1)) (hlocks := hlocks) (fun h => by rw [hr] at h; cases h)
  have hmeth' : T.vm.method? m = some meth := X.method'
  refine ⟨T.setFrames fs, ?_, .returned (some (.int 1)), hrun, hended, rfl, ⟨_, rfl⟩, hW, hframe⟩
  jvm_step X.here [X.here.top, hx, hb, hdg, hmeth', hr, ret, narrow_b1]
  (try refine ⟨rfl, ?_⟩); (try refine ⟨rfl, ?_⟩)
  first | (intro acts; rw [hret _ acts rfl rfl rfl]) | rw [hret _ _ rfl rfl rfl]
  exact Steps.refl _
/-- what holds at the law's entry: the machine, the code, the tables' words (any of lw_tbl by 'hts w (by decide +kernel)'), the script of L ints xs at the cell b, what the Statement gives of the start (any of its parts by flat_of_before) -/
def lw_At (p : Program) (s : State) (m : MethodId) (meth : Method) (c : Code) (b L : Nat) (xs : Nat → Int32) : Prop :=
  p.tables.exec = Jvm.exec ∧ c.code = code ∧ meth.sig.returnType = ret ∧ c.maxLocals = 4 ∧ s.vm.findClass R_law = some m.cls ∧ (∀ w ∈ lw_tbl, w.before #[Value.ref b] s = true) ∧ va_X b L xs s s.heap ∧ b < s.heap.size ∧ meth.locks = false ∧ (Jvm.Cond.and given_1 narrow_1).before #[Value.ref b] s = true
end
section
/-! The law's nine cases, each over the two contracts. -/
abbrev LW (x0 x1 x2 x3 x4 x5 : Nat) (r1 r2 r3 r4 r5 : ClassId) (z0 z1 z2 z3 z4 z5 : Nat) (t1 t2 t3 t4 t5 : ClassId) (fw fd fb : Nat → Int32) (lq dz : Nat → Bool) (pw mk : Bool) (lc : Nat) (lf : Option Nat) (cs : Nat) (gw gd gl : Nat → Int32) (dy lg : Nat → Bool) : va_W := [(x0, .inr (0, [.ref x1, .ref x2, .ref x3, .ref x4, .ref x5, .int (bI pw), .int (bI mk), .int (nI lc), .int (nI (lf.getD 0)), .int (nI cs)])), (x1, .inl (r1, 384, .inl fw)), (x2, .inl (r2, 384, .inl fd)), (x3, .inl (r3, 384, .inl fb)), (x4, .inl (r4, 24, .inl (fun j => bI (dz j)))), (x5, .inl (r5, 24, .inl (fun j => bI (lq j)))), (z0, .inr (1, [.ref z1, .ref z2, .ref z3, .ref z4, .ref z5, .int (bI (!pw)), .int (bI mk), .int (nI lc), .int (lfI lf), .int (nI cs)])), (z1, .inl (t1, 384, .inl gw)), (z2, .inl (t2, 384, .inl gd)), (z3, .inl (t3, 384, .inl gl)), (z4, .inl (t4, 24, .inl (fun j => bI (dy j)))), (z5, .inl (t5, 24, .inl (fun j => bI (lg j))))]
abbrev LT (r1 r2 r3 r4 r5 t1 t2 t3 t4 t5 : ClassId) : List (ClassId × FieldType) := [(r1, .int), (r2, .int), (r3, .int), (r4, .boolean), (r5, .boolean), (t1, .byte), (t2, .byte), (t3, .byte), (t4, .boolean), (t5, .boolean)]
set_option maxHeartbeats 4000000 in
set_option maxRecDepth 100000 in
theorem lc_write {p : Program} {l : Launch} {e : Env} {s : State} {m : MethodId} {below : List Frame} {meth : Method} {c : Code} {b L : Nat} {xs : Nat → Int32} (C0 : lw_At p s m meth c b L xs) {D : va_G} {x0 x1 x2 x3 x4 x5 : Nat} {r1 r2 r3 r4 r5 : ClassId} {z0 z1 z2 z3 z4 z5 : Nat} {t1 t2 t3 t4 t5 : ClassId} {fw fd fb : Nat → Int32} {lq dz : Nat → Bool} {pw mk : Bool} {lc : Nat} {lf : Option Nat} {cs : Nat} {gw gd gl : Nat → Int32} {dy lg : Nat → Bool} {fw9 fd9 fb9 : Nat → Int32} {lq9 dz9 : Nat → Bool} {pw9 mk9 : Bool} {lc9 : Nat} {lf9 : Option Nat} {cs9 : Nat} {gw9 gd9 gl9 : Nat → Int32} {dy9 lg9 : Nat → Bool} {a9 : Int32} {i : Nat} (hi : i + 4 ≤ L) (hL : L ≤ 2048) (hcX : ct_i l yX0_write wsX0_write ({ frames := 1, cells := 0, slots := 0, locals := 20 }) D vwCl (XT r1 r2 r3 r4 r5) [.ref x0, .int (xs (i + 1)), .int (xs (i + 2)), .int (xs (i + 3))] (XW x0 x1 x2 x3 x4 x5 r1 r2 r3 r4 r5 fw fd fb lq dz pw mk lc (lf.getD 0) cs) (XW x0 x1 x2 x3 x4 x5 r1 r2 r3 r4 r5 fw9 fd9 fb9 lq9 dz9 pw9 mk9 lc9 (lf9.getD 0) cs9) a9) (hcM : ct_i l yX1_write wsX1_write ({ frames := 2, cells := 0, slots := 0, locals := 43 }) D vwCl (MT t1 t2 t3 t4 t5) [.ref z0, .int (xs (i + 1)), .int (xs (i + 2)), .int (xs (i + 3))] (MW z0 z1 z2 z3 z4 z5 t1 t2 t3 t4 t5 gw gd gl dy lg (!pw) mk lc lf cs) (MW z0 z1 z2 z3 z4 z5 t1 t2 t3 t4 t5 gw9 gd9 gl9 dy9 lg9 (!pw9) mk9 lc9 lf9 cs9) a9) {H : Heap} {locs : List Loc} {ls : Array Slot} (hK : va_K D vwCl (LT r1 r2 r3 r4 r5 t1 t2 t3 t4 t5) s) (hP : va_P D vwCl (LW x0 x1 x2 x3 x4 x5 r1 r2 r3 r4 r5 z0 z1 z2 z3 z4 z5 t1 t2 t3 t4 t5 fw fd fb lq dz pw mk lc lf cs gw gd gl dy lg) H) (hD : va_D (fun q : Nat => s.heap.size ≤ q) (LW x0 x1 x2 x3 x4 x5 r1 r2 r3 r4 r5 z0 z1 z2 z3 z4 z5 t1 t2 t3 t4 t5 fw fd fb lq dz pw mk lc lf cs gw gd gl dy lg)) (hS : va_S (fun q : Nat => s.heap.size ≤ q) s.heap H locs) (hl : lv_has ls 4 [(3, .int (nI i)), (2, .ref z0), (1, .ref x0), (0, .ref b)]) (next : ∀ (H : Heap) (locs : List Loc), va_P D vwCl (LW x0 x1 x2 x3 x4 x5 r1 r2 r3 r4 r5 z0 z1 z2 z3 z4 z5 t1 t2 t3 t4 t5 fw9 fd9 fb9 lq9 dz9 pw9 mk9 lc9 lf9 cs9 gw9 gd9 gl9 dy9 lg9) H → va_D (fun q : Nat => s.heap.size ≤ q) (LW x0 x1 x2 x3 x4 x5 r1 r2 r3 r4 r5 z0 z1 z2 z3 z4 z5 t1 t2 t3 t4 t5 fw9 fd9 fb9 lq9 dz9 pw9 mk9 lc9 lf9 cs9 gw9 gd9 gl9 dy9 lg9) → va_S (fun q : Nat => s.heap.size ≤ q) s.heap H locs → W p l e room_1 s m #[Value.ref b] below meth c H locs 12 2420 (lw_Z below #[Value.ref b] s) (F0 m 321 ls [])) : W p l e room_1 s m #[Value.ref b] below meth c H locs 12 2420 (lw_Z below #[Value.ref b] s) (F0 m 84 ls []) := by
  obtain ⟨hx, hb, hr, hml, hown, hts, hXs, hbl, hlocks, hgv⟩ := C0
  have hts : ∀ w ∈ wsL_law, w.before #[Value.ref b] s = true := fun w h => hts w (wsL_law_in w h)
  have hown : s.vm.findClass RL = some m.cls := hown
  have hA : ∀ q : Nat, s.heap.size ≤ q → (fun q : Nat => s.heap.size ≤ q) q := fun _ h => h
  have hbA : ¬ (fun q : Nat => s.heap.size ≤ q) b := Nat.not_le.mpr hbl
  have hP : va_P D vwCl [(x0, .inr (0, [.ref x1, .ref x2, .ref x3, .ref x4, .ref x5, .int (bI pw), .int (bI mk), .int (nI lc), .int (nI (lf.getD 0)), .int (nI cs)])), (x1, .inl (r1, 384, .inl fw)), (x2, .inl (r2, 384, .inl fd)), (x3, .inl (r3, 384, .inl fb)), (x4, .inl (r4, 24, .inl (fun j => bI (dz j)))), (x5, .inl (r5, 24, .inl (fun j => bI (lq j)))), (z0, .inr (1, [.ref z1, .ref z2, .ref z3, .ref z4, .ref z5, .int (bI (!pw)), .int (bI mk), .int (nI lc), .int (lfI lf), .int (nI cs)])), (z1, .inl (t1, 384, .inl gw)), (z2, .inl (t2, 384, .inl gd)), (z3, .inl (t3, 384, .inl gl)), (z4, .inl (t4, 24, .inl (fun j => bI (dy j)))), (z5, .inl (t5, 24, .inl (fun j => bI (lg j))))] H := hP
  have hD : va_D (fun q : Nat => s.heap.size ≤ q) [(x0, .inr (0, [.ref x1, .ref x2, .ref x3, .ref x4, .ref x5, .int (bI pw), .int (bI mk), .int (nI lc), .int (nI (lf.getD 0)), .int (nI cs)])), (x1, .inl (r1, 384, .inl fw)), (x2, .inl (r2, 384, .inl fd)), (x3, .inl (r3, 384, .inl fb)), (x4, .inl (r4, 24, .inl (fun j => bI (dz j)))), (x5, .inl (r5, 24, .inl (fun j => bI (lq j)))), (z0, .inr (1, [.ref z1, .ref z2, .ref z3, .ref z4, .ref z5, .int (bI (!pw)), .int (bI mk), .int (nI lc), .int (lfI lf), .int (nI cs)])), (z1, .inl (t1, 384, .inl gw)), (z2, .inl (t2, 384, .inl gd)), (z3, .inl (t3, 384, .inl gl)), (z4, .inl (t4, 24, .inl (fun j => bI (dy j)))), (z5, .inl (t5, 24, .inl (fun j => bI (lg j))))] := hD
  have hK : va_K D vwCl [(r1, .int), (r2, .int), (r3, .int), (r4, .boolean), (r5, .boolean), (t1, .byte), (t2, .byte), (t3, .byte), (t4, .boolean), (t5, .boolean)] s := hK
  refine lv_aload_n hx hb dL_law_84 rfl (lv_at hl 2 rfl) ?_
  refine lv_aload_n hx hb dL_law_85 rfl (lv_at hl 3 rfl) ?_
  refine lv_iload_n hx hb dL_law_86 rfl (lv_at hl 0 rfl) ?_
  refine lv_iconst (v := 1) hx hb dL_law_87 (by decide) ?_
  refine lv_iadd hx hb dL_law_88 ?_
  refine tp_as (z := nI (i + 1)) (nI_add i 1) ?_
  refine va_sld hx hb hXs hbl hbA hS (vp_in_nI (by omega) (by omega)) dL_law_89 ?_
  refine tp_as (z := xs (i + 1)) (by rw [cl_nI (by omega)]) ?_
  refine lv_aload_n hx hb dL_law_90 rfl (lv_at hl 3 rfl) ?_
  refine lv_iload_n hx hb dL_law_91 rfl (lv_at hl 0 rfl) ?_
  refine lv_iconst (v := 2) hx hb dL_law_92 (by decide) ?_
  refine lv_iadd hx hb dL_law_93 ?_
  refine tp_as (z := nI (i + 2)) (nI_add i 2) ?_
  refine va_sld hx hb hXs hbl hbA hS (vp_in_nI (by omega) (by omega)) dL_law_94 ?_
  refine tp_as (z := xs (i + 2)) (by rw [cl_nI (by omega)]) ?_
  refine lv_aload_n hx hb dL_law_95 rfl (lv_at hl 3 rfl) ?_
  refine lv_iload_n hx hb dL_law_96 rfl (lv_at hl 0 rfl) ?_
  refine lv_iconst (v := 3) hx hb dL_law_97 (by decide) ?_
  refine lv_iadd hx hb dL_law_98 ?_
  refine tp_as (z := nI (i + 3)) (nI_add i 3) ?_
  refine va_sld hx hb hXs hbl hbA hS (vp_in_nI (by omega) (by omega)) dL_law_99 ?_
  refine tp_as (z := xs (i + 3)) (by rw [cl_nI (by omega)]) ?_
  refine ct_Vi (As := [.int (xs (i + 1)), .int (xs (i + 2)), .int (xs (i + 3))]) (rest := []) (wr := [(z0, .inr (1, [.ref z1, .ref z2, .ref z3, .ref z4, .ref z5, .int (bI (!pw)), .int (bI mk), .int (nI lc), .int (lfI lf), .int (nI cs)])), (z1, .inl (t1, 384, .inl gw)), (z2, .inl (t2, 384, .inl gd)), (z3, .inl (t3, 384, .inl gl)), (z4, .inl (t4, 24, .inl (fun j => bI (dy j)))), (z5, .inl (t5, 24, .inl (fun j => bI (lg j))))]) (wn := [(x0, .inr (0, [.ref x1, .ref x2, .ref x3, .ref x4, .ref x5, .int (bI pw9), .int (bI mk9), .int (nI lc9), .int (nI (lf9.getD 0)), .int (nI cs9)])), (x1, .inl (r1, 384, .inl fw9)), (x2, .inl (r2, 384, .inl fd9)), (x3, .inl (r3, 384, .inl fb9)), (x4, .inl (r4, 24, .inl (fun j => bI (dz9 j)))), (x5, .inl (r5, 24, .inl (fun j => bI (lq9 j)))), (z0, .inr (1, [.ref z1, .ref z2, .ref z3, .ref z4, .ref z5, .int (bI (!pw)), .int (bI mk), .int (nI lc), .int (lfI lf), .int (nI cs)])), (z1, .inl (t1, 384, .inl gw)), (z2, .inl (t2, 384, .inl gd)), (z3, .inl (t3, 384, .inl gl)), (z4, .inl (t4, 24, .inl (fun j => bI (dy j)))), (z5, .inl (t5, 24, .inl (fun j => bI (lg j))))]) ⟨hx, hb, hml, hown, hts⟩ (hcX) (cwV 3 hts gL_law_X0_write rfl rfl rfl (by decide +kernel) ⟨Nat.le_of_ble_eq_true rfl, Nat.le_of_ble_eq_true rfl⟩) hK hP hD hS hA [0, 1, 2, 3, 4, 5] [6, 7, 8, 9, 10, 11] [0, 1, 2, 3, 4] [6, 7, 8, 9, 10, 11, 0, 1, 2, 3, 4, 5] rfl rfl (by decide) rfl (by decide) (by decide) rfl (by decide) 0 rfl 0 rfl rfl hl.1 rfl (Nat.le_of_ble_eq_true rfl) dL_law_100 ⟨Nat.le_of_ble_eq_true rfl, Nat.le_of_ble_eq_true rfl⟩ (fun H locs hP hD hS => ?_)
  refine lv_aload_n hx hb dL_law_103 rfl (lv_at hl 1 rfl) ?_
  refine lv_aload_n hx hb dL_law_104 rfl (lv_at hl 3 rfl) ?_
  refine lv_iload_n hx hb dL_law_105 rfl (lv_at hl 0 rfl) ?_
  refine lv_iconst (v := 1) hx hb dL_law_106 (by decide) ?_
  refine lv_iadd hx hb dL_law_107 ?_
  refine tp_as (z := nI (i + 1)) (nI_add i 1) ?_
  refine va_sld hx hb hXs hbl hbA hS (vp_in_nI (by omega) (by omega)) dL_law_108 ?_
  refine tp_as (z := xs (i + 1)) (by rw [cl_nI (by omega)]) ?_
  refine lv_aload_n hx hb dL_law_109 rfl (lv_at hl 3 rfl) ?_
  refine lv_iload_n hx hb dL_law_110 rfl (lv_at hl 0 rfl) ?_
  refine lv_iconst (v := 2) hx hb dL_law_111 (by decide) ?_
  refine lv_iadd hx hb dL_law_112 ?_
  refine tp_as (z := nI (i + 2)) (nI_add i 2) ?_
  refine va_sld hx hb hXs hbl hbA hS (vp_in_nI (by omega) (by omega)) dL_law_113 ?_
  refine tp_as (z := xs (i + 2)) (by rw [cl_nI (by omega)]) ?_
  refine lv_aload_n hx hb dL_law_114 rfl (lv_at hl 3 rfl) ?_
  refine lv_iload_n hx hb dL_law_115 rfl (lv_at hl 0 rfl) ?_
  refine lv_iconst (v := 3) hx hb dL_law_116 (by decide) ?_
  refine lv_iadd hx hb dL_law_117 ?_
  refine tp_as (z := nI (i + 3)) (nI_add i 3) ?_
  refine va_sld hx hb hXs hbl hbA hS (vp_in_nI (by omega) (by omega)) dL_law_118 ?_
  refine tp_as (z := xs (i + 3)) (by rw [cl_nI (by omega)]) ?_
  refine ct_Vi (As := [.int (xs (i + 1)), .int (xs (i + 2)), .int (xs (i + 3))]) (rest := [.int a9]) (wr := [(x0, .inr (0, [.ref x1, .ref x2, .ref x3, .ref x4, .ref x5, .int (bI pw9), .int (bI mk9), .int (nI lc9), .int (nI (lf9.getD 0)), .int (nI cs9)])), (x1, .inl (r1, 384, .inl fw9)), (x2, .inl (r2, 384, .inl fd9)), (x3, .inl (r3, 384, .inl fb9)), (x4, .inl (r4, 24, .inl (fun j => bI (dz9 j)))), (x5, .inl (r5, 24, .inl (fun j => bI (lq9 j))))]) (wn := [(x0, .inr (0, [.ref x1, .ref x2, .ref x3, .ref x4, .ref x5, .int (bI pw9), .int (bI mk9), .int (nI lc9), .int (nI (lf9.getD 0)), .int (nI cs9)])), (x1, .inl (r1, 384, .inl fw9)), (x2, .inl (r2, 384, .inl fd9)), (x3, .inl (r3, 384, .inl fb9)), (x4, .inl (r4, 24, .inl (fun j => bI (dz9 j)))), (x5, .inl (r5, 24, .inl (fun j => bI (lq9 j)))), (z0, .inr (1, [.ref z1, .ref z2, .ref z3, .ref z4, .ref z5, .int (bI (!pw9)), .int (bI mk9), .int (nI lc9), .int (lfI lf9), .int (nI cs9)])), (z1, .inl (t1, 384, .inl gw9)), (z2, .inl (t2, 384, .inl gd9)), (z3, .inl (t3, 384, .inl gl9)), (z4, .inl (t4, 24, .inl (fun j => bI (dy9 j)))), (z5, .inl (t5, 24, .inl (fun j => bI (lg9 j))))]) ⟨hx, hb, hml, hown, hts⟩ (hcM) (cwV 3 hts gL_law_X1_write rfl rfl rfl (by decide +kernel) ⟨Nat.le_of_ble_eq_true rfl, Nat.le_of_ble_eq_true rfl⟩) hK hP hD hS hA [6, 7, 8, 9, 10, 11] [0, 1, 2, 3, 4, 5] [5, 6, 7, 8, 9] [0, 1, 2, 3, 4, 5, 6, 7, 8, 9, 10, 11] rfl rfl (by decide) rfl (by decide) (by decide) rfl (by decide) 1 rfl 0 rfl rfl hl.1 rfl (Nat.le_of_ble_eq_true rfl) dL_law_119 ⟨Nat.le_of_ble_eq_true rfl, Nat.le_of_ble_eq_true rfl⟩ (fun H locs hP hD hS => ?_)
  refine lv_icmp_eq (tgt := 321) hx hb dL_law_122 (by decide) (fun c_1 => ?_) (fun c_1 => ?_)
  · -- T of pc 122
    exact next _ _ hP hD hS
  · -- F of pc 122
    exact absurd rfl c_1
set_option maxHeartbeats 4000000 in
set_option maxRecDepth 100000 in
theorem lc_read {p : Program} {l : Launch} {e : Env} {s : State} {m : MethodId} {below : List Frame} {meth : Method} {c : Code} {b L : Nat} {xs : Nat → Int32} (C0 : lw_At p s m meth c b L xs) {D : va_G} {x0 x1 x2 x3 x4 x5 : Nat} {r1 r2 r3 r4 r5 : ClassId} {z0 z1 z2 z3 z4 z5 : Nat} {t1 t2 t3 t4 t5 : ClassId} {fw fd fb : Nat → Int32} {lq dz : Nat → Bool} {pw mk : Bool} {lc : Nat} {lf : Option Nat} {cs : Nat} {gw gd gl : Nat → Int32} {dy lg : Nat → Bool} {fw9 fd9 fb9 : Nat → Int32} {lq9 dz9 : Nat → Bool} {pw9 mk9 : Bool} {lc9 : Nat} {lf9 : Option Nat} {cs9 : Nat} {gw9 gd9 gl9 : Nat → Int32} {dy9 lg9 : Nat → Bool} {a9 : Int32} {i : Nat} (hi : i + 4 ≤ L) (hL : L ≤ 2048) (hcX : ct_i l yX0_read wsX0_read ({ frames := 1, cells := 0, slots := 0, locals := 20 }) D vwCl (XT r1 r2 r3 r4 r5) [.ref x0, .int (xs (i + 1)), .int (xs (i + 2))] (XW x0 x1 x2 x3 x4 x5 r1 r2 r3 r4 r5 fw fd fb lq dz pw mk lc (lf.getD 0) cs) (XW x0 x1 x2 x3 x4 x5 r1 r2 r3 r4 r5 fw9 fd9 fb9 lq9 dz9 pw9 mk9 lc9 (lf9.getD 0) cs9) a9) (hcM : ct_i l yX1_read wsX1_read ({ frames := 2, cells := 0, slots := 0, locals := 43 }) D vwCl (MT t1 t2 t3 t4 t5) [.ref z0, .int (xs (i + 1)), .int (xs (i + 2))] (MW z0 z1 z2 z3 z4 z5 t1 t2 t3 t4 t5 gw gd gl dy lg (!pw) mk lc lf cs) (MW z0 z1 z2 z3 z4 z5 t1 t2 t3 t4 t5 gw9 gd9 gl9 dy9 lg9 (!pw9) mk9 lc9 lf9 cs9) a9) {H : Heap} {locs : List Loc} {ls : Array Slot} (hK : va_K D vwCl (LT r1 r2 r3 r4 r5 t1 t2 t3 t4 t5) s) (hP : va_P D vwCl (LW x0 x1 x2 x3 x4 x5 r1 r2 r3 r4 r5 z0 z1 z2 z3 z4 z5 t1 t2 t3 t4 t5 fw fd fb lq dz pw mk lc lf cs gw gd gl dy lg) H) (hD : va_D (fun q : Nat => s.heap.size ≤ q) (LW x0 x1 x2 x3 x4 x5 r1 r2 r3 r4 r5 z0 z1 z2 z3 z4 z5 t1 t2 t3 t4 t5 fw fd fb lq dz pw mk lc lf cs gw gd gl dy lg)) (hS : va_S (fun q : Nat => s.heap.size ≤ q) s.heap H locs) (hl : lv_has ls 4 [(3, .int (nI i)), (2, .ref z0), (1, .ref x0), (0, .ref b)]) (next : ∀ (H : Heap) (locs : List Loc), va_P D vwCl (LW x0 x1 x2 x3 x4 x5 r1 r2 r3 r4 r5 z0 z1 z2 z3 z4 z5 t1 t2 t3 t4 t5 fw9 fd9 fb9 lq9 dz9 pw9 mk9 lc9 lf9 cs9 gw9 gd9 gl9 dy9 lg9) H → va_D (fun q : Nat => s.heap.size ≤ q) (LW x0 x1 x2 x3 x4 x5 r1 r2 r3 r4 r5 z0 z1 z2 z3 z4 z5 t1 t2 t3 t4 t5 fw9 fd9 fb9 lq9 dz9 pw9 mk9 lc9 lf9 cs9 gw9 gd9 gl9 dy9 lg9) → va_S (fun q : Nat => s.heap.size ≤ q) s.heap H locs → W p l e room_1 s m #[Value.ref b] below meth c H locs 12 2420 (lw_Z below #[Value.ref b] s) (F0 m 321 ls [])) : W p l e room_1 s m #[Value.ref b] below meth c H locs 12 2420 (lw_Z below #[Value.ref b] s) (F0 m 127 ls []) := by
  obtain ⟨hx, hb, hr, hml, hown, hts, hXs, hbl, hlocks, hgv⟩ := C0
  have hts : ∀ w ∈ wsL_law, w.before #[Value.ref b] s = true := fun w h => hts w (wsL_law_in w h)
  have hown : s.vm.findClass RL = some m.cls := hown
  have hA : ∀ q : Nat, s.heap.size ≤ q → (fun q : Nat => s.heap.size ≤ q) q := fun _ h => h
  have hbA : ¬ (fun q : Nat => s.heap.size ≤ q) b := Nat.not_le.mpr hbl
  have hP : va_P D vwCl [(x0, .inr (0, [.ref x1, .ref x2, .ref x3, .ref x4, .ref x5, .int (bI pw), .int (bI mk), .int (nI lc), .int (nI (lf.getD 0)), .int (nI cs)])), (x1, .inl (r1, 384, .inl fw)), (x2, .inl (r2, 384, .inl fd)), (x3, .inl (r3, 384, .inl fb)), (x4, .inl (r4, 24, .inl (fun j => bI (dz j)))), (x5, .inl (r5, 24, .inl (fun j => bI (lq j)))), (z0, .inr (1, [.ref z1, .ref z2, .ref z3, .ref z4, .ref z5, .int (bI (!pw)), .int (bI mk), .int (nI lc), .int (lfI lf), .int (nI cs)])), (z1, .inl (t1, 384, .inl gw)), (z2, .inl (t2, 384, .inl gd)), (z3, .inl (t3, 384, .inl gl)), (z4, .inl (t4, 24, .inl (fun j => bI (dy j)))), (z5, .inl (t5, 24, .inl (fun j => bI (lg j))))] H := hP
  have hD : va_D (fun q : Nat => s.heap.size ≤ q) [(x0, .inr (0, [.ref x1, .ref x2, .ref x3, .ref x4, .ref x5, .int (bI pw), .int (bI mk), .int (nI lc), .int (nI (lf.getD 0)), .int (nI cs)])), (x1, .inl (r1, 384, .inl fw)), (x2, .inl (r2, 384, .inl fd)), (x3, .inl (r3, 384, .inl fb)), (x4, .inl (r4, 24, .inl (fun j => bI (dz j)))), (x5, .inl (r5, 24, .inl (fun j => bI (lq j)))), (z0, .inr (1, [.ref z1, .ref z2, .ref z3, .ref z4, .ref z5, .int (bI (!pw)), .int (bI mk), .int (nI lc), .int (lfI lf), .int (nI cs)])), (z1, .inl (t1, 384, .inl gw)), (z2, .inl (t2, 384, .inl gd)), (z3, .inl (t3, 384, .inl gl)), (z4, .inl (t4, 24, .inl (fun j => bI (dy j)))), (z5, .inl (t5, 24, .inl (fun j => bI (lg j))))] := hD
  have hK : va_K D vwCl [(r1, .int), (r2, .int), (r3, .int), (r4, .boolean), (r5, .boolean), (t1, .byte), (t2, .byte), (t3, .byte), (t4, .boolean), (t5, .boolean)] s := hK
  refine lv_aload_n hx hb dL_law_127 rfl (lv_at hl 2 rfl) ?_
  refine lv_aload_n hx hb dL_law_128 rfl (lv_at hl 3 rfl) ?_
  refine lv_iload_n hx hb dL_law_129 rfl (lv_at hl 0 rfl) ?_
  refine lv_iconst (v := 1) hx hb dL_law_130 (by decide) ?_
  refine lv_iadd hx hb dL_law_131 ?_
  refine tp_as (z := nI (i + 1)) (nI_add i 1) ?_
  refine va_sld hx hb hXs hbl hbA hS (vp_in_nI (by omega) (by omega)) dL_law_132 ?_
  refine tp_as (z := xs (i + 1)) (by rw [cl_nI (by omega)]) ?_
  refine lv_aload_n hx hb dL_law_133 rfl (lv_at hl 3 rfl) ?_
  refine lv_iload_n hx hb dL_law_134 rfl (lv_at hl 0 rfl) ?_
  refine lv_iconst (v := 2) hx hb dL_law_135 (by decide) ?_
  refine lv_iadd hx hb dL_law_136 ?_
  refine tp_as (z := nI (i + 2)) (nI_add i 2) ?_
  refine va_sld hx hb hXs hbl hbA hS (vp_in_nI (by omega) (by omega)) dL_law_137 ?_
  refine tp_as (z := xs (i + 2)) (by rw [cl_nI (by omega)]) ?_
  refine ct_Vi (As := [.int (xs (i + 1)), .int (xs (i + 2))]) (rest := []) (wr := [(z0, .inr (1, [.ref z1, .ref z2, .ref z3, .ref z4, .ref z5, .int (bI (!pw)), .int (bI mk), .int (nI lc), .int (lfI lf), .int (nI cs)])), (z1, .inl (t1, 384, .inl gw)), (z2, .inl (t2, 384, .inl gd)), (z3, .inl (t3, 384, .inl gl)), (z4, .inl (t4, 24, .inl (fun j => bI (dy j)))), (z5, .inl (t5, 24, .inl (fun j => bI (lg j))))]) (wn := [(x0, .inr (0, [.ref x1, .ref x2, .ref x3, .ref x4, .ref x5, .int (bI pw9), .int (bI mk9), .int (nI lc9), .int (nI (lf9.getD 0)), .int (nI cs9)])), (x1, .inl (r1, 384, .inl fw9)), (x2, .inl (r2, 384, .inl fd9)), (x3, .inl (r3, 384, .inl fb9)), (x4, .inl (r4, 24, .inl (fun j => bI (dz9 j)))), (x5, .inl (r5, 24, .inl (fun j => bI (lq9 j)))), (z0, .inr (1, [.ref z1, .ref z2, .ref z3, .ref z4, .ref z5, .int (bI (!pw)), .int (bI mk), .int (nI lc), .int (lfI lf), .int (nI cs)])), (z1, .inl (t1, 384, .inl gw)), (z2, .inl (t2, 384, .inl gd)), (z3, .inl (t3, 384, .inl gl)), (z4, .inl (t4, 24, .inl (fun j => bI (dy j)))), (z5, .inl (t5, 24, .inl (fun j => bI (lg j))))]) ⟨hx, hb, hml, hown, hts⟩ (hcX) (cwV 2 hts gL_law_X0_read rfl rfl rfl (by decide +kernel) ⟨Nat.le_of_ble_eq_true rfl, Nat.le_of_ble_eq_true rfl⟩) hK hP hD hS hA [0, 1, 2, 3, 4, 5] [6, 7, 8, 9, 10, 11] [0, 1, 2, 3, 4] [6, 7, 8, 9, 10, 11, 0, 1, 2, 3, 4, 5] rfl rfl (by decide) rfl (by decide) (by decide) rfl (by decide) 0 rfl 0 rfl rfl hl.1 rfl (Nat.le_of_ble_eq_true rfl) dL_law_138 ⟨Nat.le_of_ble_eq_true rfl, Nat.le_of_ble_eq_true rfl⟩ (fun H locs hP hD hS => ?_)
  refine lv_aload_n hx hb dL_law_141 rfl (lv_at hl 1 rfl) ?_
  refine lv_aload_n hx hb dL_law_142 rfl (lv_at hl 3 rfl) ?_
  refine lv_iload_n hx hb dL_law_143 rfl (lv_at hl 0 rfl) ?_
  refine lv_iconst (v := 1) hx hb dL_law_144 (by decide) ?_
  refine lv_iadd hx hb dL_law_145 ?_
  refine tp_as (z := nI (i + 1)) (nI_add i 1) ?_
  refine va_sld hx hb hXs hbl hbA hS (vp_in_nI (by omega) (by omega)) dL_law_146 ?_
  refine tp_as (z := xs (i + 1)) (by rw [cl_nI (by omega)]) ?_
  refine lv_aload_n hx hb dL_law_147 rfl (lv_at hl 3 rfl) ?_
  refine lv_iload_n hx hb dL_law_148 rfl (lv_at hl 0 rfl) ?_
  refine lv_iconst (v := 2) hx hb dL_law_149 (by decide) ?_
  refine lv_iadd hx hb dL_law_150 ?_
  refine tp_as (z := nI (i + 2)) (nI_add i 2) ?_
  refine va_sld hx hb hXs hbl hbA hS (vp_in_nI (by omega) (by omega)) dL_law_151 ?_
  refine tp_as (z := xs (i + 2)) (by rw [cl_nI (by omega)]) ?_
  refine ct_Vi (As := [.int (xs (i + 1)), .int (xs (i + 2))]) (rest := [.int a9]) (wr := [(x0, .inr (0, [.ref x1, .ref x2, .ref x3, .ref x4, .ref x5, .int (bI pw9), .int (bI mk9), .int (nI lc9), .int (nI (lf9.getD 0)), .int (nI cs9)])), (x1, .inl (r1, 384, .inl fw9)), (x2, .inl (r2, 384, .inl fd9)), (x3, .inl (r3, 384, .inl fb9)), (x4, .inl (r4, 24, .inl (fun j => bI (dz9 j)))), (x5, .inl (r5, 24, .inl (fun j => bI (lq9 j))))]) (wn := [(x0, .inr (0, [.ref x1, .ref x2, .ref x3, .ref x4, .ref x5, .int (bI pw9), .int (bI mk9), .int (nI lc9), .int (nI (lf9.getD 0)), .int (nI cs9)])), (x1, .inl (r1, 384, .inl fw9)), (x2, .inl (r2, 384, .inl fd9)), (x3, .inl (r3, 384, .inl fb9)), (x4, .inl (r4, 24, .inl (fun j => bI (dz9 j)))), (x5, .inl (r5, 24, .inl (fun j => bI (lq9 j)))), (z0, .inr (1, [.ref z1, .ref z2, .ref z3, .ref z4, .ref z5, .int (bI (!pw9)), .int (bI mk9), .int (nI lc9), .int (lfI lf9), .int (nI cs9)])), (z1, .inl (t1, 384, .inl gw9)), (z2, .inl (t2, 384, .inl gd9)), (z3, .inl (t3, 384, .inl gl9)), (z4, .inl (t4, 24, .inl (fun j => bI (dy9 j)))), (z5, .inl (t5, 24, .inl (fun j => bI (lg9 j))))]) ⟨hx, hb, hml, hown, hts⟩ (hcM) (cwV 2 hts gL_law_X1_read rfl rfl rfl (by decide +kernel) ⟨Nat.le_of_ble_eq_true rfl, Nat.le_of_ble_eq_true rfl⟩) hK hP hD hS hA [6, 7, 8, 9, 10, 11] [0, 1, 2, 3, 4, 5] [5, 6, 7, 8, 9] [0, 1, 2, 3, 4, 5, 6, 7, 8, 9, 10, 11] rfl rfl (by decide) rfl (by decide) (by decide) rfl (by decide) 1 rfl 0 rfl rfl hl.1 rfl (Nat.le_of_ble_eq_true rfl) dL_law_152 ⟨Nat.le_of_ble_eq_true rfl, Nat.le_of_ble_eq_true rfl⟩ (fun H locs hP hD hS => ?_)
  refine lv_icmp_eq (tgt := 321) hx hb dL_law_155 (by decide) (fun c_1 => ?_) (fun c_1 => ?_)
  · -- T of pc 155
    exact next _ _ hP hD hS
  · -- F of pc 155
    exact absurd rfl c_1
set_option maxHeartbeats 4000000 in
set_option maxRecDepth 100000 in
theorem lc_disk {p : Program} {l : Launch} {e : Env} {s : State} {m : MethodId} {below : List Frame} {meth : Method} {c : Code} {b L : Nat} {xs : Nat → Int32} (C0 : lw_At p s m meth c b L xs) {D : va_G} {x0 x1 x2 x3 x4 x5 : Nat} {r1 r2 r3 r4 r5 : ClassId} {z0 z1 z2 z3 z4 z5 : Nat} {t1 t2 t3 t4 t5 : ClassId} {fw fd fb : Nat → Int32} {lq dz : Nat → Bool} {pw mk : Bool} {lc : Nat} {lf : Option Nat} {cs : Nat} {gw gd gl : Nat → Int32} {dy lg : Nat → Bool} {fw9 fd9 fb9 : Nat → Int32} {lq9 dz9 : Nat → Bool} {pw9 mk9 : Bool} {lc9 : Nat} {lf9 : Option Nat} {cs9 : Nat} {gw9 gd9 gl9 : Nat → Int32} {dy9 lg9 : Nat → Bool} {a9 : Int32} {i : Nat} (hi : i + 4 ≤ L) (hL : L ≤ 2048) (hcX : ct_i l yX0_disk wsX0_disk ({ frames := 1, cells := 0, slots := 0, locals := 20 }) D vwCl (XT r1 r2 r3 r4 r5) [.ref x0, .int (xs (i + 1)), .int (xs (i + 2))] (XW x0 x1 x2 x3 x4 x5 r1 r2 r3 r4 r5 fw fd fb lq dz pw mk lc (lf.getD 0) cs) (XW x0 x1 x2 x3 x4 x5 r1 r2 r3 r4 r5 fw9 fd9 fb9 lq9 dz9 pw9 mk9 lc9 (lf9.getD 0) cs9) a9) (hcM : ct_i l yX1_disk wsX1_disk ({ frames := 2, cells := 0, slots := 0, locals := 43 }) D vwCl (MT t1 t2 t3 t4 t5) [.ref z0, .int (xs (i + 1)), .int (xs (i + 2))] (MW z0 z1 z2 z3 z4 z5 t1 t2 t3 t4 t5 gw gd gl dy lg (!pw) mk lc lf cs) (MW z0 z1 z2 z3 z4 z5 t1 t2 t3 t4 t5 gw9 gd9 gl9 dy9 lg9 (!pw9) mk9 lc9 lf9 cs9) a9) {H : Heap} {locs : List Loc} {ls : Array Slot} (hK : va_K D vwCl (LT r1 r2 r3 r4 r5 t1 t2 t3 t4 t5) s) (hP : va_P D vwCl (LW x0 x1 x2 x3 x4 x5 r1 r2 r3 r4 r5 z0 z1 z2 z3 z4 z5 t1 t2 t3 t4 t5 fw fd fb lq dz pw mk lc lf cs gw gd gl dy lg) H) (hD : va_D (fun q : Nat => s.heap.size ≤ q) (LW x0 x1 x2 x3 x4 x5 r1 r2 r3 r4 r5 z0 z1 z2 z3 z4 z5 t1 t2 t3 t4 t5 fw fd fb lq dz pw mk lc lf cs gw gd gl dy lg)) (hS : va_S (fun q : Nat => s.heap.size ≤ q) s.heap H locs) (hl : lv_has ls 4 [(3, .int (nI i)), (2, .ref z0), (1, .ref x0), (0, .ref b)]) (next : ∀ (H : Heap) (locs : List Loc), va_P D vwCl (LW x0 x1 x2 x3 x4 x5 r1 r2 r3 r4 r5 z0 z1 z2 z3 z4 z5 t1 t2 t3 t4 t5 fw9 fd9 fb9 lq9 dz9 pw9 mk9 lc9 lf9 cs9 gw9 gd9 gl9 dy9 lg9) H → va_D (fun q : Nat => s.heap.size ≤ q) (LW x0 x1 x2 x3 x4 x5 r1 r2 r3 r4 r5 z0 z1 z2 z3 z4 z5 t1 t2 t3 t4 t5 fw9 fd9 fb9 lq9 dz9 pw9 mk9 lc9 lf9 cs9 gw9 gd9 gl9 dy9 lg9) → va_S (fun q : Nat => s.heap.size ≤ q) s.heap H locs → W p l e room_1 s m #[Value.ref b] below meth c H locs 12 2420 (lw_Z below #[Value.ref b] s) (F0 m 321 ls [])) : W p l e room_1 s m #[Value.ref b] below meth c H locs 12 2420 (lw_Z below #[Value.ref b] s) (F0 m 160 ls []) := by
  obtain ⟨hx, hb, hr, hml, hown, hts, hXs, hbl, hlocks, hgv⟩ := C0
  have hts : ∀ w ∈ wsL_law, w.before #[Value.ref b] s = true := fun w h => hts w (wsL_law_in w h)
  have hown : s.vm.findClass RL = some m.cls := hown
  have hA : ∀ q : Nat, s.heap.size ≤ q → (fun q : Nat => s.heap.size ≤ q) q := fun _ h => h
  have hbA : ¬ (fun q : Nat => s.heap.size ≤ q) b := Nat.not_le.mpr hbl
  have hP : va_P D vwCl [(x0, .inr (0, [.ref x1, .ref x2, .ref x3, .ref x4, .ref x5, .int (bI pw), .int (bI mk), .int (nI lc), .int (nI (lf.getD 0)), .int (nI cs)])), (x1, .inl (r1, 384, .inl fw)), (x2, .inl (r2, 384, .inl fd)), (x3, .inl (r3, 384, .inl fb)), (x4, .inl (r4, 24, .inl (fun j => bI (dz j)))), (x5, .inl (r5, 24, .inl (fun j => bI (lq j)))), (z0, .inr (1, [.ref z1, .ref z2, .ref z3, .ref z4, .ref z5, .int (bI (!pw)), .int (bI mk), .int (nI lc), .int (lfI lf), .int (nI cs)])), (z1, .inl (t1, 384, .inl gw)), (z2, .inl (t2, 384, .inl gd)), (z3, .inl (t3, 384, .inl gl)), (z4, .inl (t4, 24, .inl (fun j => bI (dy j)))), (z5, .inl (t5, 24, .inl (fun j => bI (lg j))))] H := hP
  have hD : va_D (fun q : Nat => s.heap.size ≤ q) [(x0, .inr (0, [.ref x1, .ref x2, .ref x3, .ref x4, .ref x5, .int (bI pw), .int (bI mk), .int (nI lc), .int (nI (lf.getD 0)), .int (nI cs)])), (x1, .inl (r1, 384, .inl fw)), (x2, .inl (r2, 384, .inl fd)), (x3, .inl (r3, 384, .inl fb)), (x4, .inl (r4, 24, .inl (fun j => bI (dz j)))), (x5, .inl (r5, 24, .inl (fun j => bI (lq j)))), (z0, .inr (1, [.ref z1, .ref z2, .ref z3, .ref z4, .ref z5, .int (bI (!pw)), .int (bI mk), .int (nI lc), .int (lfI lf), .int (nI cs)])), (z1, .inl (t1, 384, .inl gw)), (z2, .inl (t2, 384, .inl gd)), (z3, .inl (t3, 384, .inl gl)), (z4, .inl (t4, 24, .inl (fun j => bI (dy j)))), (z5, .inl (t5, 24, .inl (fun j => bI (lg j))))] := hD
  have hK : va_K D vwCl [(r1, .int), (r2, .int), (r3, .int), (r4, .boolean), (r5, .boolean), (t1, .byte), (t2, .byte), (t3, .byte), (t4, .boolean), (t5, .boolean)] s := hK
  refine lv_aload_n hx hb dL_law_160 rfl (lv_at hl 2 rfl) ?_
  refine lv_aload_n hx hb dL_law_161 rfl (lv_at hl 3 rfl) ?_
  refine lv_iload_n hx hb dL_law_162 rfl (lv_at hl 0 rfl) ?_
  refine lv_iconst (v := 1) hx hb dL_law_163 (by decide) ?_
  refine lv_iadd hx hb dL_law_164 ?_
  refine tp_as (z := nI (i + 1)) (nI_add i 1) ?_
  refine va_sld hx hb hXs hbl hbA hS (vp_in_nI (by omega) (by omega)) dL_law_165 ?_
  refine tp_as (z := xs (i + 1)) (by rw [cl_nI (by omega)]) ?_
  refine lv_aload_n hx hb dL_law_166 rfl (lv_at hl 3 rfl) ?_
  refine lv_iload_n hx hb dL_law_167 rfl (lv_at hl 0 rfl) ?_
  refine lv_iconst (v := 2) hx hb dL_law_168 (by decide) ?_
  refine lv_iadd hx hb dL_law_169 ?_
  refine tp_as (z := nI (i + 2)) (nI_add i 2) ?_
  refine va_sld hx hb hXs hbl hbA hS (vp_in_nI (by omega) (by omega)) dL_law_170 ?_
  refine tp_as (z := xs (i + 2)) (by rw [cl_nI (by omega)]) ?_
  refine ct_Vi (As := [.int (xs (i + 1)), .int (xs (i + 2))]) (rest := []) (wr := [(z0, .inr (1, [.ref z1, .ref z2, .ref z3, .ref z4, .ref z5, .int (bI (!pw)), .int (bI mk), .int (nI lc), .int (lfI lf), .int (nI cs)])), (z1, .inl (t1, 384, .inl gw)), (z2, .inl (t2, 384, .inl gd)), (z3, .inl (t3, 384, .inl gl)), (z4, .inl (t4, 24, .inl (fun j => bI (dy j)))), (z5, .inl (t5, 24, .inl (fun j => bI (lg j))))]) (wn := [(x0, .inr (0, [.ref x1, .ref x2, .ref x3, .ref x4, .ref x5, .int (bI pw9), .int (bI mk9), .int (nI lc9), .int (nI (lf9.getD 0)), .int (nI cs9)])), (x1, .inl (r1, 384, .inl fw9)), (x2, .inl (r2, 384, .inl fd9)), (x3, .inl (r3, 384, .inl fb9)), (x4, .inl (r4, 24, .inl (fun j => bI (dz9 j)))), (x5, .inl (r5, 24, .inl (fun j => bI (lq9 j)))), (z0, .inr (1, [.ref z1, .ref z2, .ref z3, .ref z4, .ref z5, .int (bI (!pw)), .int (bI mk), .int (nI lc), .int (lfI lf), .int (nI cs)])), (z1, .inl (t1, 384, .inl gw)), (z2, .inl (t2, 384, .inl gd)), (z3, .inl (t3, 384, .inl gl)), (z4, .inl (t4, 24, .inl (fun j => bI (dy j)))), (z5, .inl (t5, 24, .inl (fun j => bI (lg j))))]) ⟨hx, hb, hml, hown, hts⟩ (hcX) (cwV 2 hts gL_law_X0_disk rfl rfl rfl (by decide +kernel) ⟨Nat.le_of_ble_eq_true rfl, Nat.le_of_ble_eq_true rfl⟩) hK hP hD hS hA [0, 1, 2, 3, 4, 5] [6, 7, 8, 9, 10, 11] [0, 1, 2, 3, 4] [6, 7, 8, 9, 10, 11, 0, 1, 2, 3, 4, 5] rfl rfl (by decide) rfl (by decide) (by decide) rfl (by decide) 0 rfl 0 rfl rfl hl.1 rfl (Nat.le_of_ble_eq_true rfl) dL_law_171 ⟨Nat.le_of_ble_eq_true rfl, Nat.le_of_ble_eq_true rfl⟩ (fun H locs hP hD hS => ?_)
  refine lv_aload_n hx hb dL_law_174 rfl (lv_at hl 1 rfl) ?_
  refine lv_aload_n hx hb dL_law_175 rfl (lv_at hl 3 rfl) ?_
  refine lv_iload_n hx hb dL_law_176 rfl (lv_at hl 0 rfl) ?_
  refine lv_iconst (v := 1) hx hb dL_law_177 (by decide) ?_
  refine lv_iadd hx hb dL_law_178 ?_
  refine tp_as (z := nI (i + 1)) (nI_add i 1) ?_
  refine va_sld hx hb hXs hbl hbA hS (vp_in_nI (by omega) (by omega)) dL_law_179 ?_
  refine tp_as (z := xs (i + 1)) (by rw [cl_nI (by omega)]) ?_
  refine lv_aload_n hx hb dL_law_180 rfl (lv_at hl 3 rfl) ?_
  refine lv_iload_n hx hb dL_law_181 rfl (lv_at hl 0 rfl) ?_
  refine lv_iconst (v := 2) hx hb dL_law_182 (by decide) ?_
  refine lv_iadd hx hb dL_law_183 ?_
  refine tp_as (z := nI (i + 2)) (nI_add i 2) ?_
  refine va_sld hx hb hXs hbl hbA hS (vp_in_nI (by omega) (by omega)) dL_law_184 ?_
  refine tp_as (z := xs (i + 2)) (by rw [cl_nI (by omega)]) ?_
  refine ct_Vi (As := [.int (xs (i + 1)), .int (xs (i + 2))]) (rest := [.int a9]) (wr := [(x0, .inr (0, [.ref x1, .ref x2, .ref x3, .ref x4, .ref x5, .int (bI pw9), .int (bI mk9), .int (nI lc9), .int (nI (lf9.getD 0)), .int (nI cs9)])), (x1, .inl (r1, 384, .inl fw9)), (x2, .inl (r2, 384, .inl fd9)), (x3, .inl (r3, 384, .inl fb9)), (x4, .inl (r4, 24, .inl (fun j => bI (dz9 j)))), (x5, .inl (r5, 24, .inl (fun j => bI (lq9 j))))]) (wn := [(x0, .inr (0, [.ref x1, .ref x2, .ref x3, .ref x4, .ref x5, .int (bI pw9), .int (bI mk9), .int (nI lc9), .int (nI (lf9.getD 0)), .int (nI cs9)])), (x1, .inl (r1, 384, .inl fw9)), (x2, .inl (r2, 384, .inl fd9)), (x3, .inl (r3, 384, .inl fb9)), (x4, .inl (r4, 24, .inl (fun j => bI (dz9 j)))), (x5, .inl (r5, 24, .inl (fun j => bI (lq9 j)))), (z0, .inr (1, [.ref z1, .ref z2, .ref z3, .ref z4, .ref z5, .int (bI (!pw9)), .int (bI mk9), .int (nI lc9), .int (lfI lf9), .int (nI cs9)])), (z1, .inl (t1, 384, .inl gw9)), (z2, .inl (t2, 384, .inl gd9)), (z3, .inl (t3, 384, .inl gl9)), (z4, .inl (t4, 24, .inl (fun j => bI (dy9 j)))), (z5, .inl (t5, 24, .inl (fun j => bI (lg9 j))))]) ⟨hx, hb, hml, hown, hts⟩ (hcM) (cwV 2 hts gL_law_X1_disk rfl rfl rfl (by decide +kernel) ⟨Nat.le_of_ble_eq_true rfl, Nat.le_of_ble_eq_true rfl⟩) hK hP hD hS hA [6, 7, 8, 9, 10, 11] [0, 1, 2, 3, 4, 5] [5, 6, 7, 8, 9] [0, 1, 2, 3, 4, 5, 6, 7, 8, 9, 10, 11] rfl rfl (by decide) rfl (by decide) (by decide) rfl (by decide) 1 rfl 0 rfl rfl hl.1 rfl (Nat.le_of_ble_eq_true rfl) dL_law_185 ⟨Nat.le_of_ble_eq_true rfl, Nat.le_of_ble_eq_true rfl⟩ (fun H locs hP hD hS => ?_)
  refine lv_icmp_eq (tgt := 321) hx hb dL_law_188 (by decide) (fun c_1 => ?_) (fun c_1 => ?_)
  · -- T of pc 188
    exact next _ _ hP hD hS
  · -- F of pc 188
    exact absurd rfl c_1
set_option maxHeartbeats 4000000 in
set_option maxRecDepth 100000 in
theorem lc_dirty {p : Program} {l : Launch} {e : Env} {s : State} {m : MethodId} {below : List Frame} {meth : Method} {c : Code} {b L : Nat} {xs : Nat → Int32} (C0 : lw_At p s m meth c b L xs) {D : va_G} {x0 x1 x2 x3 x4 x5 : Nat} {r1 r2 r3 r4 r5 : ClassId} {z0 z1 z2 z3 z4 z5 : Nat} {t1 t2 t3 t4 t5 : ClassId} {fw fd fb : Nat → Int32} {lq dz : Nat → Bool} {pw mk : Bool} {lc : Nat} {lf : Option Nat} {cs : Nat} {gw gd gl : Nat → Int32} {dy lg : Nat → Bool} {fw9 fd9 fb9 : Nat → Int32} {lq9 dz9 : Nat → Bool} {pw9 mk9 : Bool} {lc9 : Nat} {lf9 : Option Nat} {cs9 : Nat} {gw9 gd9 gl9 : Nat → Int32} {dy9 lg9 : Nat → Bool} {a9 : Int32} {i : Nat} (hi : i + 4 ≤ L) (hL : L ≤ 2048) (hcX : ct_i l yX0_dirty wsX0_dirty ({ frames := 1, cells := 0, slots := 0, locals := 20 }) D vwCl (XT r1 r2 r3 r4 r5) [.ref x0, .int (xs (i + 1))] (XW x0 x1 x2 x3 x4 x5 r1 r2 r3 r4 r5 fw fd fb lq dz pw mk lc (lf.getD 0) cs) (XW x0 x1 x2 x3 x4 x5 r1 r2 r3 r4 r5 fw9 fd9 fb9 lq9 dz9 pw9 mk9 lc9 (lf9.getD 0) cs9) a9) (hcM : ct_i l yX1_dirty wsX1_dirty ({ frames := 2, cells := 0, slots := 0, locals := 43 }) D vwCl (MT t1 t2 t3 t4 t5) [.ref z0, .int (xs (i + 1))] (MW z0 z1 z2 z3 z4 z5 t1 t2 t3 t4 t5 gw gd gl dy lg (!pw) mk lc lf cs) (MW z0 z1 z2 z3 z4 z5 t1 t2 t3 t4 t5 gw9 gd9 gl9 dy9 lg9 (!pw9) mk9 lc9 lf9 cs9) a9) {H : Heap} {locs : List Loc} {ls : Array Slot} (hK : va_K D vwCl (LT r1 r2 r3 r4 r5 t1 t2 t3 t4 t5) s) (hP : va_P D vwCl (LW x0 x1 x2 x3 x4 x5 r1 r2 r3 r4 r5 z0 z1 z2 z3 z4 z5 t1 t2 t3 t4 t5 fw fd fb lq dz pw mk lc lf cs gw gd gl dy lg) H) (hD : va_D (fun q : Nat => s.heap.size ≤ q) (LW x0 x1 x2 x3 x4 x5 r1 r2 r3 r4 r5 z0 z1 z2 z3 z4 z5 t1 t2 t3 t4 t5 fw fd fb lq dz pw mk lc lf cs gw gd gl dy lg)) (hS : va_S (fun q : Nat => s.heap.size ≤ q) s.heap H locs) (hl : lv_has ls 4 [(3, .int (nI i)), (2, .ref z0), (1, .ref x0), (0, .ref b)]) (next : ∀ (H : Heap) (locs : List Loc), va_P D vwCl (LW x0 x1 x2 x3 x4 x5 r1 r2 r3 r4 r5 z0 z1 z2 z3 z4 z5 t1 t2 t3 t4 t5 fw9 fd9 fb9 lq9 dz9 pw9 mk9 lc9 lf9 cs9 gw9 gd9 gl9 dy9 lg9) H → va_D (fun q : Nat => s.heap.size ≤ q) (LW x0 x1 x2 x3 x4 x5 r1 r2 r3 r4 r5 z0 z1 z2 z3 z4 z5 t1 t2 t3 t4 t5 fw9 fd9 fb9 lq9 dz9 pw9 mk9 lc9 lf9 cs9 gw9 gd9 gl9 dy9 lg9) → va_S (fun q : Nat => s.heap.size ≤ q) s.heap H locs → W p l e room_1 s m #[Value.ref b] below meth c H locs 12 2420 (lw_Z below #[Value.ref b] s) (F0 m 321 ls [])) : W p l e room_1 s m #[Value.ref b] below meth c H locs 12 2420 (lw_Z below #[Value.ref b] s) (F0 m 193 ls []) := by
  obtain ⟨hx, hb, hr, hml, hown, hts, hXs, hbl, hlocks, hgv⟩ := C0
  have hts : ∀ w ∈ wsL_law, w.before #[Value.ref b] s = true := fun w h => hts w (wsL_law_in w h)
  have hown : s.vm.findClass RL = some m.cls := hown
  have hA : ∀ q : Nat, s.heap.size ≤ q → (fun q : Nat => s.heap.size ≤ q) q := fun _ h => h
  have hbA : ¬ (fun q : Nat => s.heap.size ≤ q) b := Nat.not_le.mpr hbl
  have hP : va_P D vwCl [(x0, .inr (0, [.ref x1, .ref x2, .ref x3, .ref x4, .ref x5, .int (bI pw), .int (bI mk), .int (nI lc), .int (nI (lf.getD 0)), .int (nI cs)])), (x1, .inl (r1, 384, .inl fw)), (x2, .inl (r2, 384, .inl fd)), (x3, .inl (r3, 384, .inl fb)), (x4, .inl (r4, 24, .inl (fun j => bI (dz j)))), (x5, .inl (r5, 24, .inl (fun j => bI (lq j)))), (z0, .inr (1, [.ref z1, .ref z2, .ref z3, .ref z4, .ref z5, .int (bI (!pw)), .int (bI mk), .int (nI lc), .int (lfI lf), .int (nI cs)])), (z1, .inl (t1, 384, .inl gw)), (z2, .inl (t2, 384, .inl gd)), (z3, .inl (t3, 384, .inl gl)), (z4, .inl (t4, 24, .inl (fun j => bI (dy j)))), (z5, .inl (t5, 24, .inl (fun j => bI (lg j))))] H := hP
  have hD : va_D (fun q : Nat => s.heap.size ≤ q) [(x0, .inr (0, [.ref x1, .ref x2, .ref x3, .ref x4, .ref x5, .int (bI pw), .int (bI mk), .int (nI lc), .int (nI (lf.getD 0)), .int (nI cs)])), (x1, .inl (r1, 384, .inl fw)), (x2, .inl (r2, 384, .inl fd)), (x3, .inl (r3, 384, .inl fb)), (x4, .inl (r4, 24, .inl (fun j => bI (dz j)))), (x5, .inl (r5, 24, .inl (fun j => bI (lq j)))), (z0, .inr (1, [.ref z1, .ref z2, .ref z3, .ref z4, .ref z5, .int (bI (!pw)), .int (bI mk), .int (nI lc), .int (lfI lf), .int (nI cs)])), (z1, .inl (t1, 384, .inl gw)), (z2, .inl (t2, 384, .inl gd)), (z3, .inl (t3, 384, .inl gl)), (z4, .inl (t4, 24, .inl (fun j => bI (dy j)))), (z5, .inl (t5, 24, .inl (fun j => bI (lg j))))] := hD
  have hK : va_K D vwCl [(r1, .int), (r2, .int), (r3, .int), (r4, .boolean), (r5, .boolean), (t1, .byte), (t2, .byte), (t3, .byte), (t4, .boolean), (t5, .boolean)] s := hK
  refine lv_aload_n hx hb dL_law_193 rfl (lv_at hl 2 rfl) ?_
  refine lv_aload_n hx hb dL_law_194 rfl (lv_at hl 3 rfl) ?_
  refine lv_iload_n hx hb dL_law_195 rfl (lv_at hl 0 rfl) ?_
  refine lv_iconst (v := 1) hx hb dL_law_196 (by decide) ?_
  refine lv_iadd hx hb dL_law_197 ?_
  refine tp_as (z := nI (i + 1)) (nI_add i 1) ?_
  refine va_sld hx hb hXs hbl hbA hS (vp_in_nI (by omega) (by omega)) dL_law_198 ?_
  refine tp_as (z := xs (i + 1)) (by rw [cl_nI (by omega)]) ?_
  refine ct_Vi (As := [.int (xs (i + 1))]) (rest := []) (wr := [(z0, .inr (1, [.ref z1, .ref z2, .ref z3, .ref z4, .ref z5, .int (bI (!pw)), .int (bI mk), .int (nI lc), .int (lfI lf), .int (nI cs)])), (z1, .inl (t1, 384, .inl gw)), (z2, .inl (t2, 384, .inl gd)), (z3, .inl (t3, 384, .inl gl)), (z4, .inl (t4, 24, .inl (fun j => bI (dy j)))), (z5, .inl (t5, 24, .inl (fun j => bI (lg j))))]) (wn := [(x0, .inr (0, [.ref x1, .ref x2, .ref x3, .ref x4, .ref x5, .int (bI pw9), .int (bI mk9), .int (nI lc9), .int (nI (lf9.getD 0)), .int (nI cs9)])), (x1, .inl (r1, 384, .inl fw9)), (x2, .inl (r2, 384, .inl fd9)), (x3, .inl (r3, 384, .inl fb9)), (x4, .inl (r4, 24, .inl (fun j => bI (dz9 j)))), (x5, .inl (r5, 24, .inl (fun j => bI (lq9 j)))), (z0, .inr (1, [.ref z1, .ref z2, .ref z3, .ref z4, .ref z5, .int (bI (!pw)), .int (bI mk), .int (nI lc), .int (lfI lf), .int (nI cs)])), (z1, .inl (t1, 384, .inl gw)), (z2, .inl (t2, 384, .inl gd)), (z3, .inl (t3, 384, .inl gl)), (z4, .inl (t4, 24, .inl (fun j => bI (dy j)))), (z5, .inl (t5, 24, .inl (fun j => bI (lg j))))]) ⟨hx, hb, hml, hown, hts⟩ (hcX) (cwV 1 hts gL_law_X0_dirty rfl rfl rfl (by decide +kernel) ⟨Nat.le_of_ble_eq_true rfl, Nat.le_of_ble_eq_true rfl⟩) hK hP hD hS hA [0, 1, 2, 3, 4, 5] [6, 7, 8, 9, 10, 11] [0, 1, 2, 3, 4] [6, 7, 8, 9, 10, 11, 0, 1, 2, 3, 4, 5] rfl rfl (by decide) rfl (by decide) (by decide) rfl (by decide) 0 rfl 0 rfl rfl hl.1 rfl (Nat.le_of_ble_eq_true rfl) dL_law_199 ⟨Nat.le_of_ble_eq_true rfl, Nat.le_of_ble_eq_true rfl⟩ (fun H locs hP hD hS => ?_)
  refine lv_aload_n hx hb dL_law_202 rfl (lv_at hl 1 rfl) ?_
  refine lv_aload_n hx hb dL_law_203 rfl (lv_at hl 3 rfl) ?_
  refine lv_iload_n hx hb dL_law_204 rfl (lv_at hl 0 rfl) ?_
  refine lv_iconst (v := 1) hx hb dL_law_205 (by decide) ?_
  refine lv_iadd hx hb dL_law_206 ?_
  refine tp_as (z := nI (i + 1)) (nI_add i 1) ?_
  refine va_sld hx hb hXs hbl hbA hS (vp_in_nI (by omega) (by omega)) dL_law_207 ?_
  refine tp_as (z := xs (i + 1)) (by rw [cl_nI (by omega)]) ?_
  refine ct_Vi (As := [.int (xs (i + 1))]) (rest := [.int a9]) (wr := [(x0, .inr (0, [.ref x1, .ref x2, .ref x3, .ref x4, .ref x5, .int (bI pw9), .int (bI mk9), .int (nI lc9), .int (nI (lf9.getD 0)), .int (nI cs9)])), (x1, .inl (r1, 384, .inl fw9)), (x2, .inl (r2, 384, .inl fd9)), (x3, .inl (r3, 384, .inl fb9)), (x4, .inl (r4, 24, .inl (fun j => bI (dz9 j)))), (x5, .inl (r5, 24, .inl (fun j => bI (lq9 j))))]) (wn := [(x0, .inr (0, [.ref x1, .ref x2, .ref x3, .ref x4, .ref x5, .int (bI pw9), .int (bI mk9), .int (nI lc9), .int (nI (lf9.getD 0)), .int (nI cs9)])), (x1, .inl (r1, 384, .inl fw9)), (x2, .inl (r2, 384, .inl fd9)), (x3, .inl (r3, 384, .inl fb9)), (x4, .inl (r4, 24, .inl (fun j => bI (dz9 j)))), (x5, .inl (r5, 24, .inl (fun j => bI (lq9 j)))), (z0, .inr (1, [.ref z1, .ref z2, .ref z3, .ref z4, .ref z5, .int (bI (!pw9)), .int (bI mk9), .int (nI lc9), .int (lfI lf9), .int (nI cs9)])), (z1, .inl (t1, 384, .inl gw9)), (z2, .inl (t2, 384, .inl gd9)), (z3, .inl (t3, 384, .inl gl9)), (z4, .inl (t4, 24, .inl (fun j => bI (dy9 j)))), (z5, .inl (t5, 24, .inl (fun j => bI (lg9 j))))]) ⟨hx, hb, hml, hown, hts⟩ (hcM) (cwV 1 hts gL_law_X1_dirty rfl rfl rfl (by decide +kernel) ⟨Nat.le_of_ble_eq_true rfl, Nat.le_of_ble_eq_true rfl⟩) hK hP hD hS hA [6, 7, 8, 9, 10, 11] [0, 1, 2, 3, 4, 5] [5, 6, 7, 8, 9] [0, 1, 2, 3, 4, 5, 6, 7, 8, 9, 10, 11] rfl rfl (by decide) rfl (by decide) (by decide) rfl (by decide) 1 rfl 0 rfl rfl hl.1 rfl (Nat.le_of_ble_eq_true rfl) dL_law_208 ⟨Nat.le_of_ble_eq_true rfl, Nat.le_of_ble_eq_true rfl⟩ (fun H locs hP hD hS => ?_)
  refine lv_icmp_eq (tgt := 321) hx hb dL_law_211 (by decide) (fun c_1 => ?_) (fun c_1 => ?_)
  · -- T of pc 211
    exact next _ _ hP hD hS
  · -- F of pc 211
    exact absurd rfl c_1
set_option maxHeartbeats 4000000 in
set_option maxRecDepth 100000 in
theorem lc_commit {p : Program} {l : Launch} {e : Env} {s : State} {m : MethodId} {below : List Frame} {meth : Method} {c : Code} {b L : Nat} {xs : Nat → Int32} (C0 : lw_At p s m meth c b L xs) {D : va_G} {x0 x1 x2 x3 x4 x5 : Nat} {r1 r2 r3 r4 r5 : ClassId} {z0 z1 z2 z3 z4 z5 : Nat} {t1 t2 t3 t4 t5 : ClassId} {fw fd fb : Nat → Int32} {lq dz : Nat → Bool} {pw mk : Bool} {lc : Nat} {lf : Option Nat} {cs : Nat} {gw gd gl : Nat → Int32} {dy lg : Nat → Bool} {fw9 fd9 fb9 : Nat → Int32} {lq9 dz9 : Nat → Bool} {pw9 mk9 : Bool} {lc9 : Nat} {lf9 : Option Nat} {cs9 : Nat} {gw9 gd9 gl9 : Nat → Int32} {dy9 lg9 : Nat → Bool} {a9 : Int32} {i : Nat} (hi : i + 4 ≤ L) (hL : L ≤ 2048) (hcX : ct_i l yX0_commit wsX0_commit ({ frames := 3, cells := 0, slots := 0, locals := 64 }) D vwCl (XT r1 r2 r3 r4 r5) [.ref x0] (XW x0 x1 x2 x3 x4 x5 r1 r2 r3 r4 r5 fw fd fb lq dz pw mk lc (lf.getD 0) cs) (XW x0 x1 x2 x3 x4 x5 r1 r2 r3 r4 r5 fw9 fd9 fb9 lq9 dz9 pw9 mk9 lc9 (lf9.getD 0) cs9) a9) (hcM : ct_i l yX1_commit wsX1_commit ({ frames := 2, cells := 0, slots := 0, locals := 46 }) D vwCl (MT t1 t2 t3 t4 t5) [.ref z0] (MW z0 z1 z2 z3 z4 z5 t1 t2 t3 t4 t5 gw gd gl dy lg (!pw) mk lc lf cs) (MW z0 z1 z2 z3 z4 z5 t1 t2 t3 t4 t5 gw9 gd9 gl9 dy9 lg9 (!pw9) mk9 lc9 lf9 cs9) a9) {H : Heap} {locs : List Loc} {ls : Array Slot} (hK : va_K D vwCl (LT r1 r2 r3 r4 r5 t1 t2 t3 t4 t5) s) (hP : va_P D vwCl (LW x0 x1 x2 x3 x4 x5 r1 r2 r3 r4 r5 z0 z1 z2 z3 z4 z5 t1 t2 t3 t4 t5 fw fd fb lq dz pw mk lc lf cs gw gd gl dy lg) H) (hD : va_D (fun q : Nat => s.heap.size ≤ q) (LW x0 x1 x2 x3 x4 x5 r1 r2 r3 r4 r5 z0 z1 z2 z3 z4 z5 t1 t2 t3 t4 t5 fw fd fb lq dz pw mk lc lf cs gw gd gl dy lg)) (hS : va_S (fun q : Nat => s.heap.size ≤ q) s.heap H locs) (hl : lv_has ls 4 [(3, .int (nI i)), (2, .ref z0), (1, .ref x0), (0, .ref b)]) (next : ∀ (H : Heap) (locs : List Loc), va_P D vwCl (LW x0 x1 x2 x3 x4 x5 r1 r2 r3 r4 r5 z0 z1 z2 z3 z4 z5 t1 t2 t3 t4 t5 fw9 fd9 fb9 lq9 dz9 pw9 mk9 lc9 lf9 cs9 gw9 gd9 gl9 dy9 lg9) H → va_D (fun q : Nat => s.heap.size ≤ q) (LW x0 x1 x2 x3 x4 x5 r1 r2 r3 r4 r5 z0 z1 z2 z3 z4 z5 t1 t2 t3 t4 t5 fw9 fd9 fb9 lq9 dz9 pw9 mk9 lc9 lf9 cs9 gw9 gd9 gl9 dy9 lg9) → va_S (fun q : Nat => s.heap.size ≤ q) s.heap H locs → W p l e room_1 s m #[Value.ref b] below meth c H locs 12 2420 (lw_Z below #[Value.ref b] s) (F0 m 321 ls [])) : W p l e room_1 s m #[Value.ref b] below meth c H locs 12 2420 (lw_Z below #[Value.ref b] s) (F0 m 216 ls []) := by
  obtain ⟨hx, hb, hr, hml, hown, hts, hXs, hbl, hlocks, hgv⟩ := C0
  have hts : ∀ w ∈ wsL_law, w.before #[Value.ref b] s = true := fun w h => hts w (wsL_law_in w h)
  have hown : s.vm.findClass RL = some m.cls := hown
  have hA : ∀ q : Nat, s.heap.size ≤ q → (fun q : Nat => s.heap.size ≤ q) q := fun _ h => h
  have hbA : ¬ (fun q : Nat => s.heap.size ≤ q) b := Nat.not_le.mpr hbl
  have hP : va_P D vwCl [(x0, .inr (0, [.ref x1, .ref x2, .ref x3, .ref x4, .ref x5, .int (bI pw), .int (bI mk), .int (nI lc), .int (nI (lf.getD 0)), .int (nI cs)])), (x1, .inl (r1, 384, .inl fw)), (x2, .inl (r2, 384, .inl fd)), (x3, .inl (r3, 384, .inl fb)), (x4, .inl (r4, 24, .inl (fun j => bI (dz j)))), (x5, .inl (r5, 24, .inl (fun j => bI (lq j)))), (z0, .inr (1, [.ref z1, .ref z2, .ref z3, .ref z4, .ref z5, .int (bI (!pw)), .int (bI mk), .int (nI lc), .int (lfI lf), .int (nI cs)])), (z1, .inl (t1, 384, .inl gw)), (z2, .inl (t2, 384, .inl gd)), (z3, .inl (t3, 384, .inl gl)), (z4, .inl (t4, 24, .inl (fun j => bI (dy j)))), (z5, .inl (t5, 24, .inl (fun j => bI (lg j))))] H := hP
  have hD : va_D (fun q : Nat => s.heap.size ≤ q) [(x0, .inr (0, [.ref x1, .ref x2, .ref x3, .ref x4, .ref x5, .int (bI pw), .int (bI mk), .int (nI lc), .int (nI (lf.getD 0)), .int (nI cs)])), (x1, .inl (r1, 384, .inl fw)), (x2, .inl (r2, 384, .inl fd)), (x3, .inl (r3, 384, .inl fb)), (x4, .inl (r4, 24, .inl (fun j => bI (dz j)))), (x5, .inl (r5, 24, .inl (fun j => bI (lq j)))), (z0, .inr (1, [.ref z1, .ref z2, .ref z3, .ref z4, .ref z5, .int (bI (!pw)), .int (bI mk), .int (nI lc), .int (lfI lf), .int (nI cs)])), (z1, .inl (t1, 384, .inl gw)), (z2, .inl (t2, 384, .inl gd)), (z3, .inl (t3, 384, .inl gl)), (z4, .inl (t4, 24, .inl (fun j => bI (dy j)))), (z5, .inl (t5, 24, .inl (fun j => bI (lg j))))] := hD
  have hK : va_K D vwCl [(r1, .int), (r2, .int), (r3, .int), (r4, .boolean), (r5, .boolean), (t1, .byte), (t2, .byte), (t3, .byte), (t4, .boolean), (t5, .boolean)] s := hK
  refine lv_aload_n hx hb dL_law_216 rfl (lv_at hl 2 rfl) ?_
  refine ct_Vi (As := []) (rest := []) (wr := [(z0, .inr (1, [.ref z1, .ref z2, .ref z3, .ref z4, .ref z5, .int (bI (!pw)), .int (bI mk), .int (nI lc), .int (lfI lf), .int (nI cs)])), (z1, .inl (t1, 384, .inl gw)), (z2, .inl (t2, 384, .inl gd)), (z3, .inl (t3, 384, .inl gl)), (z4, .inl (t4, 24, .inl (fun j => bI (dy j)))), (z5, .inl (t5, 24, .inl (fun j => bI (lg j))))]) (wn := [(x0, .inr (0, [.ref x1, .ref x2, .ref x3, .ref x4, .ref x5, .int (bI pw9), .int (bI mk9), .int (nI lc9), .int (nI (lf9.getD 0)), .int (nI cs9)])), (x1, .inl (r1, 384, .inl fw9)), (x2, .inl (r2, 384, .inl fd9)), (x3, .inl (r3, 384, .inl fb9)), (x4, .inl (r4, 24, .inl (fun j => bI (dz9 j)))), (x5, .inl (r5, 24, .inl (fun j => bI (lq9 j)))), (z0, .inr (1, [.ref z1, .ref z2, .ref z3, .ref z4, .ref z5, .int (bI (!pw)), .int (bI mk), .int (nI lc), .int (lfI lf), .int (nI cs)])), (z1, .inl (t1, 384, .inl gw)), (z2, .inl (t2, 384, .inl gd)), (z3, .inl (t3, 384, .inl gl)), (z4, .inl (t4, 24, .inl (fun j => bI (dy j)))), (z5, .inl (t5, 24, .inl (fun j => bI (lg j))))]) ⟨hx, hb, hml, hown, hts⟩ (hcX) (cwV 0 hts gL_law_X0_commit rfl rfl rfl (by decide +kernel) ⟨Nat.le_of_ble_eq_true rfl, Nat.le_of_ble_eq_true rfl⟩) hK hP hD hS hA [0, 1, 2, 3, 4, 5] [6, 7, 8, 9, 10, 11] [0, 1, 2, 3, 4] [6, 7, 8, 9, 10, 11, 0, 1, 2, 3, 4, 5] rfl rfl (by decide) rfl (by decide) (by decide) rfl (by decide) 0 rfl 0 rfl rfl hl.1 rfl (Nat.le_of_ble_eq_true rfl) dL_law_217 ⟨Nat.le_of_ble_eq_true rfl, Nat.le_of_ble_eq_true rfl⟩ (fun H locs hP hD hS => ?_)
  refine lv_aload_n hx hb dL_law_220 rfl (lv_at hl 1 rfl) ?_
  refine ct_Vi (As := []) (rest := [.int a9]) (wr := [(x0, .inr (0, [.ref x1, .ref x2, .ref x3, .ref x4, .ref x5, .int (bI pw9), .int (bI mk9), .int (nI lc9), .int (nI (lf9.getD 0)), .int (nI cs9)])), (x1, .inl (r1, 384, .inl fw9)), (x2, .inl (r2, 384, .inl fd9)), (x3, .inl (r3, 384, .inl fb9)), (x4, .inl (r4, 24, .inl (fun j => bI (dz9 j)))), (x5, .inl (r5, 24, .inl (fun j => bI (lq9 j))))]) (wn := [(x0, .inr (0, [.ref x1, .ref x2, .ref x3, .ref x4, .ref x5, .int (bI pw9), .int (bI mk9), .int (nI lc9), .int (nI (lf9.getD 0)), .int (nI cs9)])), (x1, .inl (r1, 384, .inl fw9)), (x2, .inl (r2, 384, .inl fd9)), (x3, .inl (r3, 384, .inl fb9)), (x4, .inl (r4, 24, .inl (fun j => bI (dz9 j)))), (x5, .inl (r5, 24, .inl (fun j => bI (lq9 j)))), (z0, .inr (1, [.ref z1, .ref z2, .ref z3, .ref z4, .ref z5, .int (bI (!pw9)), .int (bI mk9), .int (nI lc9), .int (lfI lf9), .int (nI cs9)])), (z1, .inl (t1, 384, .inl gw9)), (z2, .inl (t2, 384, .inl gd9)), (z3, .inl (t3, 384, .inl gl9)), (z4, .inl (t4, 24, .inl (fun j => bI (dy9 j)))), (z5, .inl (t5, 24, .inl (fun j => bI (lg9 j))))]) ⟨hx, hb, hml, hown, hts⟩ (hcM) (cwV 0 hts gL_law_X1_commit rfl rfl rfl (by decide +kernel) ⟨Nat.le_of_ble_eq_true rfl, Nat.le_of_ble_eq_true rfl⟩) hK hP hD hS hA [6, 7, 8, 9, 10, 11] [0, 1, 2, 3, 4, 5] [5, 6, 7, 8, 9] [0, 1, 2, 3, 4, 5, 6, 7, 8, 9, 10, 11] rfl rfl (by decide) rfl (by decide) (by decide) rfl (by decide) 1 rfl 0 rfl rfl hl.1 rfl (Nat.le_of_ble_eq_true rfl) dL_law_221 ⟨Nat.le_of_ble_eq_true rfl, Nat.le_of_ble_eq_true rfl⟩ (fun H locs hP hD hS => ?_)
  refine lv_icmp_eq (tgt := 321) hx hb dL_law_224 (by decide) (fun c_1 => ?_) (fun c_1 => ?_)
  · -- T of pc 224
    exact next _ _ hP hD hS
  · -- F of pc 224
    exact absurd rfl c_1
set_option maxHeartbeats 4000000 in
set_option maxRecDepth 100000 in
theorem lc_revert {p : Program} {l : Launch} {e : Env} {s : State} {m : MethodId} {below : List Frame} {meth : Method} {c : Code} {b L : Nat} {xs : Nat → Int32} (C0 : lw_At p s m meth c b L xs) {D : va_G} {x0 x1 x2 x3 x4 x5 : Nat} {r1 r2 r3 r4 r5 : ClassId} {z0 z1 z2 z3 z4 z5 : Nat} {t1 t2 t3 t4 t5 : ClassId} {fw fd fb : Nat → Int32} {lq dz : Nat → Bool} {pw mk : Bool} {lc : Nat} {lf : Option Nat} {cs : Nat} {gw gd gl : Nat → Int32} {dy lg : Nat → Bool} {fw9 fd9 fb9 : Nat → Int32} {lq9 dz9 : Nat → Bool} {pw9 mk9 : Bool} {lc9 : Nat} {lf9 : Option Nat} {cs9 : Nat} {gw9 gd9 gl9 : Nat → Int32} {dy9 lg9 : Nat → Bool} {a9 : Int32} {i : Nat} (hi : i + 4 ≤ L) (hL : L ≤ 2048) (hcX : ct_i l yX0_revert wsX0_revert ({ frames := 2, cells := 0, slots := 0, locals := 41 }) D vwCl (XT r1 r2 r3 r4 r5) [.ref x0] (XW x0 x1 x2 x3 x4 x5 r1 r2 r3 r4 r5 fw fd fb lq dz pw mk lc (lf.getD 0) cs) (XW x0 x1 x2 x3 x4 x5 r1 r2 r3 r4 r5 fw9 fd9 fb9 lq9 dz9 pw9 mk9 lc9 (lf9.getD 0) cs9) a9) (hcM : ct_i l yX1_revert wsX1_revert ({ frames := 2, cells := 0, slots := 0, locals := 46 }) D vwCl (MT t1 t2 t3 t4 t5) [.ref z0] (MW z0 z1 z2 z3 z4 z5 t1 t2 t3 t4 t5 gw gd gl dy lg (!pw) mk lc lf cs) (MW z0 z1 z2 z3 z4 z5 t1 t2 t3 t4 t5 gw9 gd9 gl9 dy9 lg9 (!pw9) mk9 lc9 lf9 cs9) a9) {H : Heap} {locs : List Loc} {ls : Array Slot} (hK : va_K D vwCl (LT r1 r2 r3 r4 r5 t1 t2 t3 t4 t5) s) (hP : va_P D vwCl (LW x0 x1 x2 x3 x4 x5 r1 r2 r3 r4 r5 z0 z1 z2 z3 z4 z5 t1 t2 t3 t4 t5 fw fd fb lq dz pw mk lc lf cs gw gd gl dy lg) H) (hD : va_D (fun q : Nat => s.heap.size ≤ q) (LW x0 x1 x2 x3 x4 x5 r1 r2 r3 r4 r5 z0 z1 z2 z3 z4 z5 t1 t2 t3 t4 t5 fw fd fb lq dz pw mk lc lf cs gw gd gl dy lg)) (hS : va_S (fun q : Nat => s.heap.size ≤ q) s.heap H locs) (hl : lv_has ls 4 [(3, .int (nI i)), (2, .ref z0), (1, .ref x0), (0, .ref b)]) (next : ∀ (H : Heap) (locs : List Loc), va_P D vwCl (LW x0 x1 x2 x3 x4 x5 r1 r2 r3 r4 r5 z0 z1 z2 z3 z4 z5 t1 t2 t3 t4 t5 fw9 fd9 fb9 lq9 dz9 pw9 mk9 lc9 lf9 cs9 gw9 gd9 gl9 dy9 lg9) H → va_D (fun q : Nat => s.heap.size ≤ q) (LW x0 x1 x2 x3 x4 x5 r1 r2 r3 r4 r5 z0 z1 z2 z3 z4 z5 t1 t2 t3 t4 t5 fw9 fd9 fb9 lq9 dz9 pw9 mk9 lc9 lf9 cs9 gw9 gd9 gl9 dy9 lg9) → va_S (fun q : Nat => s.heap.size ≤ q) s.heap H locs → W p l e room_1 s m #[Value.ref b] below meth c H locs 12 2420 (lw_Z below #[Value.ref b] s) (F0 m 321 ls [])) : W p l e room_1 s m #[Value.ref b] below meth c H locs 12 2420 (lw_Z below #[Value.ref b] s) (F0 m 229 ls []) := by
  obtain ⟨hx, hb, hr, hml, hown, hts, hXs, hbl, hlocks, hgv⟩ := C0
  have hts : ∀ w ∈ wsL_law, w.before #[Value.ref b] s = true := fun w h => hts w (wsL_law_in w h)
  have hown : s.vm.findClass RL = some m.cls := hown
  have hA : ∀ q : Nat, s.heap.size ≤ q → (fun q : Nat => s.heap.size ≤ q) q := fun _ h => h
  have hbA : ¬ (fun q : Nat => s.heap.size ≤ q) b := Nat.not_le.mpr hbl
  have hP : va_P D vwCl [(x0, .inr (0, [.ref x1, .ref x2, .ref x3, .ref x4, .ref x5, .int (bI pw), .int (bI mk), .int (nI lc), .int (nI (lf.getD 0)), .int (nI cs)])), (x1, .inl (r1, 384, .inl fw)), (x2, .inl (r2, 384, .inl fd)), (x3, .inl (r3, 384, .inl fb)), (x4, .inl (r4, 24, .inl (fun j => bI (dz j)))), (x5, .inl (r5, 24, .inl (fun j => bI (lq j)))), (z0, .inr (1, [.ref z1, .ref z2, .ref z3, .ref z4, .ref z5, .int (bI (!pw)), .int (bI mk), .int (nI lc), .int (lfI lf), .int (nI cs)])), (z1, .inl (t1, 384, .inl gw)), (z2, .inl (t2, 384, .inl gd)), (z3, .inl (t3, 384, .inl gl)), (z4, .inl (t4, 24, .inl (fun j => bI (dy j)))), (z5, .inl (t5, 24, .inl (fun j => bI (lg j))))] H := hP
  have hD : va_D (fun q : Nat => s.heap.size ≤ q) [(x0, .inr (0, [.ref x1, .ref x2, .ref x3, .ref x4, .ref x5, .int (bI pw), .int (bI mk), .int (nI lc), .int (nI (lf.getD 0)), .int (nI cs)])), (x1, .inl (r1, 384, .inl fw)), (x2, .inl (r2, 384, .inl fd)), (x3, .inl (r3, 384, .inl fb)), (x4, .inl (r4, 24, .inl (fun j => bI (dz j)))), (x5, .inl (r5, 24, .inl (fun j => bI (lq j)))), (z0, .inr (1, [.ref z1, .ref z2, .ref z3, .ref z4, .ref z5, .int (bI (!pw)), .int (bI mk), .int (nI lc), .int (lfI lf), .int (nI cs)])), (z1, .inl (t1, 384, .inl gw)), (z2, .inl (t2, 384, .inl gd)), (z3, .inl (t3, 384, .inl gl)), (z4, .inl (t4, 24, .inl (fun j => bI (dy j)))), (z5, .inl (t5, 24, .inl (fun j => bI (lg j))))] := hD
  have hK : va_K D vwCl [(r1, .int), (r2, .int), (r3, .int), (r4, .boolean), (r5, .boolean), (t1, .byte), (t2, .byte), (t3, .byte), (t4, .boolean), (t5, .boolean)] s := hK
  refine lv_aload_n hx hb dL_law_229 rfl (lv_at hl 2 rfl) ?_
  refine ct_Vi (As := []) (rest := []) (wr := [(z0, .inr (1, [.ref z1, .ref z2, .ref z3, .ref z4, .ref z5, .int (bI (!pw)), .int (bI mk), .int (nI lc), .int (lfI lf), .int (nI cs)])), (z1, .inl (t1, 384, .inl gw)), (z2, .inl (t2, 384, .inl gd)), (z3, .inl (t3, 384, .inl gl)), (z4, .inl (t4, 24, .inl (fun j => bI (dy j)))), (z5, .inl (t5, 24, .inl (fun j => bI (lg j))))]) (wn := [(x0, .inr (0, [.ref x1, .ref x2, .ref x3, .ref x4, .ref x5, .int (bI pw9), .int (bI mk9), .int (nI lc9), .int (nI (lf9.getD 0)), .int (nI cs9)])), (x1, .inl (r1, 384, .inl fw9)), (x2, .inl (r2, 384, .inl fd9)), (x3, .inl (r3, 384, .inl fb9)), (x4, .inl (r4, 24, .inl (fun j => bI (dz9 j)))), (x5, .inl (r5, 24, .inl (fun j => bI (lq9 j)))), (z0, .inr (1, [.ref z1, .ref z2, .ref z3, .ref z4, .ref z5, .int (bI (!pw)), .int (bI mk), .int (nI lc), .int (lfI lf), .int (nI cs)])), (z1, .inl (t1, 384, .inl gw)), (z2, .inl (t2, 384, .inl gd)), (z3, .inl (t3, 384, .inl gl)), (z4, .inl (t4, 24, .inl (fun j => bI (dy j)))), (z5, .inl (t5, 24, .inl (fun j => bI (lg j))))]) ⟨hx, hb, hml, hown, hts⟩ (hcX) (cwV 0 hts gL_law_X0_revert rfl rfl rfl (by decide +kernel) ⟨Nat.le_of_ble_eq_true rfl, Nat.le_of_ble_eq_true rfl⟩) hK hP hD hS hA [0, 1, 2, 3, 4, 5] [6, 7, 8, 9, 10, 11] [0, 1, 2, 3, 4] [6, 7, 8, 9, 10, 11, 0, 1, 2, 3, 4, 5] rfl rfl (by decide) rfl (by decide) (by decide) rfl (by decide) 0 rfl 0 rfl rfl hl.1 rfl (Nat.le_of_ble_eq_true rfl) dL_law_230 ⟨Nat.le_of_ble_eq_true rfl, Nat.le_of_ble_eq_true rfl⟩ (fun H locs hP hD hS => ?_)
  refine lv_aload_n hx hb dL_law_233 rfl (lv_at hl 1 rfl) ?_
  refine ct_Vi (As := []) (rest := [.int a9]) (wr := [(x0, .inr (0, [.ref x1, .ref x2, .ref x3, .ref x4, .ref x5, .int (bI pw9), .int (bI mk9), .int (nI lc9), .int (nI (lf9.getD 0)), .int (nI cs9)])), (x1, .inl (r1, 384, .inl fw9)), (x2, .inl (r2, 384, .inl fd9)), (x3, .inl (r3, 384, .inl fb9)), (x4, .inl (r4, 24, .inl (fun j => bI (dz9 j)))), (x5, .inl (r5, 24, .inl (fun j => bI (lq9 j))))]) (wn := [(x0, .inr (0, [.ref x1, .ref x2, .ref x3, .ref x4, .ref x5, .int (bI pw9), .int (bI mk9), .int (nI lc9), .int (nI (lf9.getD 0)), .int (nI cs9)])), (x1, .inl (r1, 384, .inl fw9)), (x2, .inl (r2, 384, .inl fd9)), (x3, .inl (r3, 384, .inl fb9)), (x4, .inl (r4, 24, .inl (fun j => bI (dz9 j)))), (x5, .inl (r5, 24, .inl (fun j => bI (lq9 j)))), (z0, .inr (1, [.ref z1, .ref z2, .ref z3, .ref z4, .ref z5, .int (bI (!pw9)), .int (bI mk9), .int (nI lc9), .int (lfI lf9), .int (nI cs9)])), (z1, .inl (t1, 384, .inl gw9)), (z2, .inl (t2, 384, .inl gd9)), (z3, .inl (t3, 384, .inl gl9)), (z4, .inl (t4, 24, .inl (fun j => bI (dy9 j)))), (z5, .inl (t5, 24, .inl (fun j => bI (lg9 j))))]) ⟨hx, hb, hml, hown, hts⟩ (hcM) (cwV 0 hts gL_law_X1_revert rfl rfl rfl (by decide +kernel) ⟨Nat.le_of_ble_eq_true rfl, Nat.le_of_ble_eq_true rfl⟩) hK hP hD hS hA [6, 7, 8, 9, 10, 11] [0, 1, 2, 3, 4, 5] [5, 6, 7, 8, 9] [0, 1, 2, 3, 4, 5, 6, 7, 8, 9, 10, 11] rfl rfl (by decide) rfl (by decide) (by decide) rfl (by decide) 1 rfl 0 rfl rfl hl.1 rfl (Nat.le_of_ble_eq_true rfl) dL_law_234 ⟨Nat.le_of_ble_eq_true rfl, Nat.le_of_ble_eq_true rfl⟩ (fun H locs hP hD hS => ?_)
  refine lv_icmp_eq (tgt := 321) hx hb dL_law_237 (by decide) (fun c_1 => ?_) (fun c_1 => ?_)
  · -- T of pc 237
    exact next _ _ hP hD hS
  · -- F of pc 237
    exact absurd rfl c_1
set_option maxHeartbeats 4000000 in
set_option maxRecDepth 100000 in
theorem lc_cut {p : Program} {l : Launch} {e : Env} {s : State} {m : MethodId} {below : List Frame} {meth : Method} {c : Code} {b L : Nat} {xs : Nat → Int32} (C0 : lw_At p s m meth c b L xs) {D : va_G} {x0 x1 x2 x3 x4 x5 : Nat} {r1 r2 r3 r4 r5 : ClassId} {z0 z1 z2 z3 z4 z5 : Nat} {t1 t2 t3 t4 t5 : ClassId} {fw fd fb : Nat → Int32} {lq dz : Nat → Bool} {pw mk : Bool} {lc : Nat} {lf : Option Nat} {cs : Nat} {gw gd gl : Nat → Int32} {dy lg : Nat → Bool} {fw9 fd9 fb9 : Nat → Int32} {lq9 dz9 : Nat → Bool} {pw9 mk9 : Bool} {lc9 : Nat} {lf9 : Option Nat} {cs9 : Nat} {gw9 gd9 gl9 : Nat → Int32} {dy9 lg9 : Nat → Bool} {a9 : Int32} {i : Nat} (hi : i + 4 ≤ L) (hL : L ≤ 2048) (hcX : ct_i l yX0_cut wsX0_cut ({ frames := 0, cells := 0, slots := 0, locals := 0 }) D vwCl (XT r1 r2 r3 r4 r5) [.ref x0, .int (xs (i + 1)), .int (xs (i + 2))] (XW x0 x1 x2 x3 x4 x5 r1 r2 r3 r4 r5 fw fd fb lq dz pw mk lc (lf.getD 0) cs) (XW x0 x1 x2 x3 x4 x5 r1 r2 r3 r4 r5 fw9 fd9 fb9 lq9 dz9 pw9 mk9 lc9 (lf9.getD 0) cs9) a9) (hcM : ct_i l yX1_cut wsX1_cut ({ frames := 1, cells := 0, slots := 0, locals := 22 }) D vwCl (MT t1 t2 t3 t4 t5) [.ref z0, .int (xs (i + 1)), .int (xs (i + 2))] (MW z0 z1 z2 z3 z4 z5 t1 t2 t3 t4 t5 gw gd gl dy lg (!pw) mk lc lf cs) (MW z0 z1 z2 z3 z4 z5 t1 t2 t3 t4 t5 gw9 gd9 gl9 dy9 lg9 (!pw9) mk9 lc9 lf9 cs9) a9) {H : Heap} {locs : List Loc} {ls : Array Slot} (hK : va_K D vwCl (LT r1 r2 r3 r4 r5 t1 t2 t3 t4 t5) s) (hP : va_P D vwCl (LW x0 x1 x2 x3 x4 x5 r1 r2 r3 r4 r5 z0 z1 z2 z3 z4 z5 t1 t2 t3 t4 t5 fw fd fb lq dz pw mk lc lf cs gw gd gl dy lg) H) (hD : va_D (fun q : Nat => s.heap.size ≤ q) (LW x0 x1 x2 x3 x4 x5 r1 r2 r3 r4 r5 z0 z1 z2 z3 z4 z5 t1 t2 t3 t4 t5 fw fd fb lq dz pw mk lc lf cs gw gd gl dy lg)) (hS : va_S (fun q : Nat => s.heap.size ≤ q) s.heap H locs) (hl : lv_has ls 4 [(3, .int (nI i)), (2, .ref z0), (1, .ref x0), (0, .ref b)]) (next : ∀ (H : Heap) (locs : List Loc), va_P D vwCl (LW x0 x1 x2 x3 x4 x5 r1 r2 r3 r4 r5 z0 z1 z2 z3 z4 z5 t1 t2 t3 t4 t5 fw9 fd9 fb9 lq9 dz9 pw9 mk9 lc9 lf9 cs9 gw9 gd9 gl9 dy9 lg9) H → va_D (fun q : Nat => s.heap.size ≤ q) (LW x0 x1 x2 x3 x4 x5 r1 r2 r3 r4 r5 z0 z1 z2 z3 z4 z5 t1 t2 t3 t4 t5 fw9 fd9 fb9 lq9 dz9 pw9 mk9 lc9 lf9 cs9 gw9 gd9 gl9 dy9 lg9) → va_S (fun q : Nat => s.heap.size ≤ q) s.heap H locs → W p l e room_1 s m #[Value.ref b] below meth c H locs 12 2420 (lw_Z below #[Value.ref b] s) (F0 m 321 ls [])) : W p l e room_1 s m #[Value.ref b] below meth c H locs 12 2420 (lw_Z below #[Value.ref b] s) (F0 m 242 ls []) := by
  obtain ⟨hx, hb, hr, hml, hown, hts, hXs, hbl, hlocks, hgv⟩ := C0
  have hts : ∀ w ∈ wsL_law, w.before #[Value.ref b] s = true := fun w h => hts w (wsL_law_in w h)
  have hown : s.vm.findClass RL = some m.cls := hown
  have hA : ∀ q : Nat, s.heap.size ≤ q → (fun q : Nat => s.heap.size ≤ q) q := fun _ h => h
  have hbA : ¬ (fun q : Nat => s.heap.size ≤ q) b := Nat.not_le.mpr hbl
  have hP : va_P D vwCl [(x0, .inr (0, [.ref x1, .ref x2, .ref x3, .ref x4, .ref x5, .int (bI pw), .int (bI mk), .int (nI lc), .int (nI (lf.getD 0)), .int (nI cs)])), (x1, .inl (r1, 384, .inl fw)), (x2, .inl (r2, 384, .inl fd)), (x3, .inl (r3, 384, .inl fb)), (x4, .inl (r4, 24, .inl (fun j => bI (dz j)))), (x5, .inl (r5, 24, .inl (fun j => bI (lq j)))), (z0, .inr (1, [.ref z1, .ref z2, .ref z3, .ref z4, .ref z5, .int (bI (!pw)), .int (bI mk), .int (nI lc), .int (lfI lf), .int (nI cs)])), (z1, .inl (t1, 384, .inl gw)), (z2, .inl (t2, 384, .inl gd)), (z3, .inl (t3, 384, .inl gl)), (z4, .inl (t4, 24, .inl (fun j => bI (dy j)))), (z5, .inl (t5, 24, .inl (fun j => bI (lg j))))] H := hP
  have hD : va_D (fun q : Nat => s.heap.size ≤ q) [(x0, .inr (0, [.ref x1, .ref x2, .ref x3, .ref x4, .ref x5, .int (bI pw), .int (bI mk), .int (nI lc), .int (nI (lf.getD 0)), .int (nI cs)])), (x1, .inl (r1, 384, .inl fw)), (x2, .inl (r2, 384, .inl fd)), (x3, .inl (r3, 384, .inl fb)), (x4, .inl (r4, 24, .inl (fun j => bI (dz j)))), (x5, .inl (r5, 24, .inl (fun j => bI (lq j)))), (z0, .inr (1, [.ref z1, .ref z2, .ref z3, .ref z4, .ref z5, .int (bI (!pw)), .int (bI mk), .int (nI lc), .int (lfI lf), .int (nI cs)])), (z1, .inl (t1, 384, .inl gw)), (z2, .inl (t2, 384, .inl gd)), (z3, .inl (t3, 384, .inl gl)), (z4, .inl (t4, 24, .inl (fun j => bI (dy j)))), (z5, .inl (t5, 24, .inl (fun j => bI (lg j))))] := hD
  have hK : va_K D vwCl [(r1, .int), (r2, .int), (r3, .int), (r4, .boolean), (r5, .boolean), (t1, .byte), (t2, .byte), (t3, .byte), (t4, .boolean), (t5, .boolean)] s := hK
  refine lv_aload_n hx hb dL_law_242 rfl (lv_at hl 2 rfl) ?_
  refine lv_aload_n hx hb dL_law_243 rfl (lv_at hl 3 rfl) ?_
  refine lv_iload_n hx hb dL_law_244 rfl (lv_at hl 0 rfl) ?_
  refine lv_iconst (v := 1) hx hb dL_law_245 (by decide) ?_
  refine lv_iadd hx hb dL_law_246 ?_
  refine tp_as (z := nI (i + 1)) (nI_add i 1) ?_
  refine va_sld hx hb hXs hbl hbA hS (vp_in_nI (by omega) (by omega)) dL_law_247 ?_
  refine tp_as (z := xs (i + 1)) (by rw [cl_nI (by omega)]) ?_
  refine lv_aload_n hx hb dL_law_248 rfl (lv_at hl 3 rfl) ?_
  refine lv_iload_n hx hb dL_law_249 rfl (lv_at hl 0 rfl) ?_
  refine lv_iconst (v := 2) hx hb dL_law_250 (by decide) ?_
  refine lv_iadd hx hb dL_law_251 ?_
  refine tp_as (z := nI (i + 2)) (nI_add i 2) ?_
  refine va_sld hx hb hXs hbl hbA hS (vp_in_nI (by omega) (by omega)) dL_law_252 ?_
  refine tp_as (z := xs (i + 2)) (by rw [cl_nI (by omega)]) ?_
  refine ct_Vi (As := [.int (xs (i + 1)), .int (xs (i + 2))]) (rest := []) (wr := [(z0, .inr (1, [.ref z1, .ref z2, .ref z3, .ref z4, .ref z5, .int (bI (!pw)), .int (bI mk), .int (nI lc), .int (lfI lf), .int (nI cs)])), (z1, .inl (t1, 384, .inl gw)), (z2, .inl (t2, 384, .inl gd)), (z3, .inl (t3, 384, .inl gl)), (z4, .inl (t4, 24, .inl (fun j => bI (dy j)))), (z5, .inl (t5, 24, .inl (fun j => bI (lg j))))]) (wn := [(x0, .inr (0, [.ref x1, .ref x2, .ref x3, .ref x4, .ref x5, .int (bI pw9), .int (bI mk9), .int (nI lc9), .int (nI (lf9.getD 0)), .int (nI cs9)])), (x1, .inl (r1, 384, .inl fw9)), (x2, .inl (r2, 384, .inl fd9)), (x3, .inl (r3, 384, .inl fb9)), (x4, .inl (r4, 24, .inl (fun j => bI (dz9 j)))), (x5, .inl (r5, 24, .inl (fun j => bI (lq9 j)))), (z0, .inr (1, [.ref z1, .ref z2, .ref z3, .ref z4, .ref z5, .int (bI (!pw)), .int (bI mk), .int (nI lc), .int (lfI lf), .int (nI cs)])), (z1, .inl (t1, 384, .inl gw)), (z2, .inl (t2, 384, .inl gd)), (z3, .inl (t3, 384, .inl gl)), (z4, .inl (t4, 24, .inl (fun j => bI (dy j)))), (z5, .inl (t5, 24, .inl (fun j => bI (lg j))))]) ⟨hx, hb, hml, hown, hts⟩ (hcX) (cwV 2 hts gL_law_X0_cut rfl rfl rfl (by decide +kernel) ⟨Nat.le_of_ble_eq_true rfl, Nat.le_of_ble_eq_true rfl⟩) hK hP hD hS hA [0, 1, 2, 3, 4, 5] [6, 7, 8, 9, 10, 11] [0, 1, 2, 3, 4] [6, 7, 8, 9, 10, 11, 0, 1, 2, 3, 4, 5] rfl rfl (by decide) rfl (by decide) (by decide) rfl (by decide) 0 rfl 0 rfl rfl hl.1 rfl (Nat.le_of_ble_eq_true rfl) dL_law_253 ⟨Nat.le_of_ble_eq_true rfl, Nat.le_of_ble_eq_true rfl⟩ (fun H locs hP hD hS => ?_)
  refine lv_aload_n hx hb dL_law_256 rfl (lv_at hl 1 rfl) ?_
  refine lv_aload_n hx hb dL_law_257 rfl (lv_at hl 3 rfl) ?_
  refine lv_iload_n hx hb dL_law_258 rfl (lv_at hl 0 rfl) ?_
  refine lv_iconst (v := 1) hx hb dL_law_259 (by decide) ?_
  refine lv_iadd hx hb dL_law_260 ?_
  refine tp_as (z := nI (i + 1)) (nI_add i 1) ?_
  refine va_sld hx hb hXs hbl hbA hS (vp_in_nI (by omega) (by omega)) dL_law_261 ?_
  refine tp_as (z := xs (i + 1)) (by rw [cl_nI (by omega)]) ?_
  refine lv_aload_n hx hb dL_law_262 rfl (lv_at hl 3 rfl) ?_
  refine lv_iload_n hx hb dL_law_263 rfl (lv_at hl 0 rfl) ?_
  refine lv_iconst (v := 2) hx hb dL_law_264 (by decide) ?_
  refine lv_iadd hx hb dL_law_265 ?_
  refine tp_as (z := nI (i + 2)) (nI_add i 2) ?_
  refine va_sld hx hb hXs hbl hbA hS (vp_in_nI (by omega) (by omega)) dL_law_266 ?_
  refine tp_as (z := xs (i + 2)) (by rw [cl_nI (by omega)]) ?_
  refine ct_Vi (As := [.int (xs (i + 1)), .int (xs (i + 2))]) (rest := [.int a9]) (wr := [(x0, .inr (0, [.ref x1, .ref x2, .ref x3, .ref x4, .ref x5, .int (bI pw9), .int (bI mk9), .int (nI lc9), .int (nI (lf9.getD 0)), .int (nI cs9)])), (x1, .inl (r1, 384, .inl fw9)), (x2, .inl (r2, 384, .inl fd9)), (x3, .inl (r3, 384, .inl fb9)), (x4, .inl (r4, 24, .inl (fun j => bI (dz9 j)))), (x5, .inl (r5, 24, .inl (fun j => bI (lq9 j))))]) (wn := [(x0, .inr (0, [.ref x1, .ref x2, .ref x3, .ref x4, .ref x5, .int (bI pw9), .int (bI mk9), .int (nI lc9), .int (nI (lf9.getD 0)), .int (nI cs9)])), (x1, .inl (r1, 384, .inl fw9)), (x2, .inl (r2, 384, .inl fd9)), (x3, .inl (r3, 384, .inl fb9)), (x4, .inl (r4, 24, .inl (fun j => bI (dz9 j)))), (x5, .inl (r5, 24, .inl (fun j => bI (lq9 j)))), (z0, .inr (1, [.ref z1, .ref z2, .ref z3, .ref z4, .ref z5, .int (bI (!pw9)), .int (bI mk9), .int (nI lc9), .int (lfI lf9), .int (nI cs9)])), (z1, .inl (t1, 384, .inl gw9)), (z2, .inl (t2, 384, .inl gd9)), (z3, .inl (t3, 384, .inl gl9)), (z4, .inl (t4, 24, .inl (fun j => bI (dy9 j)))), (z5, .inl (t5, 24, .inl (fun j => bI (lg9 j))))]) ⟨hx, hb, hml, hown, hts⟩ (hcM) (cwV 2 hts gL_law_X1_cut rfl rfl rfl (by decide +kernel) ⟨Nat.le_of_ble_eq_true rfl, Nat.le_of_ble_eq_true rfl⟩) hK hP hD hS hA [6, 7, 8, 9, 10, 11] [0, 1, 2, 3, 4, 5] [5, 6, 7, 8, 9] [0, 1, 2, 3, 4, 5, 6, 7, 8, 9, 10, 11] rfl rfl (by decide) rfl (by decide) (by decide) rfl (by decide) 1 rfl 0 rfl rfl hl.1 rfl (Nat.le_of_ble_eq_true rfl) dL_law_267 ⟨Nat.le_of_ble_eq_true rfl, Nat.le_of_ble_eq_true rfl⟩ (fun H locs hP hD hS => ?_)
  refine lv_icmp_eq (tgt := 321) hx hb dL_law_270 (by decide) (fun c_1 => ?_) (fun c_1 => ?_)
  · -- T of pc 270
    exact next _ _ hP hD hS
  · -- F of pc 270
    exact absurd rfl c_1
set_option maxHeartbeats 4000000 in
set_option maxRecDepth 100000 in
theorem lc_start {p : Program} {l : Launch} {e : Env} {s : State} {m : MethodId} {below : List Frame} {meth : Method} {c : Code} {b L : Nat} {xs : Nat → Int32} (C0 : lw_At p s m meth c b L xs) {D : va_G} {x0 x1 x2 x3 x4 x5 : Nat} {r1 r2 r3 r4 r5 : ClassId} {z0 z1 z2 z3 z4 z5 : Nat} {t1 t2 t3 t4 t5 : ClassId} {fw fd fb : Nat → Int32} {lq dz : Nat → Bool} {pw mk : Bool} {lc : Nat} {lf : Option Nat} {cs : Nat} {gw gd gl : Nat → Int32} {dy lg : Nat → Bool} {fw9 fd9 fb9 : Nat → Int32} {lq9 dz9 : Nat → Bool} {pw9 mk9 : Bool} {lc9 : Nat} {lf9 : Option Nat} {cs9 : Nat} {gw9 gd9 gl9 : Nat → Int32} {dy9 lg9 : Nat → Bool} {a9 : Int32} {i : Nat} (hi : i + 4 ≤ L) (hL : L ≤ 2048) (hcX : ct_i l yX0_start wsX0_start ({ frames := 3, cells := 0, slots := 0, locals := 64 }) D vwCl (XT r1 r2 r3 r4 r5) [.ref x0, .int (xs (i + 1))] (XW x0 x1 x2 x3 x4 x5 r1 r2 r3 r4 r5 fw fd fb lq dz pw mk lc (lf.getD 0) cs) (XW x0 x1 x2 x3 x4 x5 r1 r2 r3 r4 r5 fw9 fd9 fb9 lq9 dz9 pw9 mk9 lc9 (lf9.getD 0) cs9) a9) (hcM : ct_i l yX1_start wsX1_start ({ frames := 2, cells := 0, slots := 0, locals := 46 }) D vwCl (MT t1 t2 t3 t4 t5) [.ref z0, .int (xs (i + 1))] (MW z0 z1 z2 z3 z4 z5 t1 t2 t3 t4 t5 gw gd gl dy lg (!pw) mk lc lf cs) (MW z0 z1 z2 z3 z4 z5 t1 t2 t3 t4 t5 gw9 gd9 gl9 dy9 lg9 (!pw9) mk9 lc9 lf9 cs9) a9) {H : Heap} {locs : List Loc} {ls : Array Slot} (hK : va_K D vwCl (LT r1 r2 r3 r4 r5 t1 t2 t3 t4 t5) s) (hP : va_P D vwCl (LW x0 x1 x2 x3 x4 x5 r1 r2 r3 r4 r5 z0 z1 z2 z3 z4 z5 t1 t2 t3 t4 t5 fw fd fb lq dz pw mk lc lf cs gw gd gl dy lg) H) (hD : va_D (fun q : Nat => s.heap.size ≤ q) (LW x0 x1 x2 x3 x4 x5 r1 r2 r3 r4 r5 z0 z1 z2 z3 z4 z5 t1 t2 t3 t4 t5 fw fd fb lq dz pw mk lc lf cs gw gd gl dy lg)) (hS : va_S (fun q : Nat => s.heap.size ≤ q) s.heap H locs) (hl : lv_has ls 4 [(3, .int (nI i)), (2, .ref z0), (1, .ref x0), (0, .ref b)]) (next : ∀ (H : Heap) (locs : List Loc), va_P D vwCl (LW x0 x1 x2 x3 x4 x5 r1 r2 r3 r4 r5 z0 z1 z2 z3 z4 z5 t1 t2 t3 t4 t5 fw9 fd9 fb9 lq9 dz9 pw9 mk9 lc9 lf9 cs9 gw9 gd9 gl9 dy9 lg9) H → va_D (fun q : Nat => s.heap.size ≤ q) (LW x0 x1 x2 x3 x4 x5 r1 r2 r3 r4 r5 z0 z1 z2 z3 z4 z5 t1 t2 t3 t4 t5 fw9 fd9 fb9 lq9 dz9 pw9 mk9 lc9 lf9 cs9 gw9 gd9 gl9 dy9 lg9) → va_S (fun q : Nat => s.heap.size ≤ q) s.heap H locs → W p l e room_1 s m #[Value.ref b] below meth c H locs 12 2420 (lw_Z below #[Value.ref b] s) (F0 m 321 ls [])) : W p l e room_1 s m #[Value.ref b] below meth c H locs 12 2420 (lw_Z below #[Value.ref b] s) (F0 m 275 ls []) := by
  obtain ⟨hx, hb, hr, hml, hown, hts, hXs, hbl, hlocks, hgv⟩ := C0
  have hts : ∀ w ∈ wsL_law, w.before #[Value.ref b] s = true := fun w h => hts w (wsL_law_in w h)
  have hown : s.vm.findClass RL = some m.cls := hown
  have hA : ∀ q : Nat, s.heap.size ≤ q → (fun q : Nat => s.heap.size ≤ q) q := fun _ h => h
  have hbA : ¬ (fun q : Nat => s.heap.size ≤ q) b := Nat.not_le.mpr hbl
  have hP : va_P D vwCl [(x0, .inr (0, [.ref x1, .ref x2, .ref x3, .ref x4, .ref x5, .int (bI pw), .int (bI mk), .int (nI lc), .int (nI (lf.getD 0)), .int (nI cs)])), (x1, .inl (r1, 384, .inl fw)), (x2, .inl (r2, 384, .inl fd)), (x3, .inl (r3, 384, .inl fb)), (x4, .inl (r4, 24, .inl (fun j => bI (dz j)))), (x5, .inl (r5, 24, .inl (fun j => bI (lq j)))), (z0, .inr (1, [.ref z1, .ref z2, .ref z3, .ref z4, .ref z5, .int (bI (!pw)), .int (bI mk), .int (nI lc), .int (lfI lf), .int (nI cs)])), (z1, .inl (t1, 384, .inl gw)), (z2, .inl (t2, 384, .inl gd)), (z3, .inl (t3, 384, .inl gl)), (z4, .inl (t4, 24, .inl (fun j => bI (dy j)))), (z5, .inl (t5, 24, .inl (fun j => bI (lg j))))] H := hP
  have hD : va_D (fun q : Nat => s.heap.size ≤ q) [(x0, .inr (0, [.ref x1, .ref x2, .ref x3, .ref x4, .ref x5, .int (bI pw), .int (bI mk), .int (nI lc), .int (nI (lf.getD 0)), .int (nI cs)])), (x1, .inl (r1, 384, .inl fw)), (x2, .inl (r2, 384, .inl fd)), (x3, .inl (r3, 384, .inl fb)), (x4, .inl (r4, 24, .inl (fun j => bI (dz j)))), (x5, .inl (r5, 24, .inl (fun j => bI (lq j)))), (z0, .inr (1, [.ref z1, .ref z2, .ref z3, .ref z4, .ref z5, .int (bI (!pw)), .int (bI mk), .int (nI lc), .int (lfI lf), .int (nI cs)])), (z1, .inl (t1, 384, .inl gw)), (z2, .inl (t2, 384, .inl gd)), (z3, .inl (t3, 384, .inl gl)), (z4, .inl (t4, 24, .inl (fun j => bI (dy j)))), (z5, .inl (t5, 24, .inl (fun j => bI (lg j))))] := hD
  have hK : va_K D vwCl [(r1, .int), (r2, .int), (r3, .int), (r4, .boolean), (r5, .boolean), (t1, .byte), (t2, .byte), (t3, .byte), (t4, .boolean), (t5, .boolean)] s := hK
  refine lv_aload_n hx hb dL_law_275 rfl (lv_at hl 2 rfl) ?_
  refine lv_aload_n hx hb dL_law_276 rfl (lv_at hl 3 rfl) ?_
  refine lv_iload_n hx hb dL_law_277 rfl (lv_at hl 0 rfl) ?_
  refine lv_iconst (v := 1) hx hb dL_law_278 (by decide) ?_
  refine lv_iadd hx hb dL_law_279 ?_
  refine tp_as (z := nI (i + 1)) (nI_add i 1) ?_
  refine va_sld hx hb hXs hbl hbA hS (vp_in_nI (by omega) (by omega)) dL_law_280 ?_
  refine tp_as (z := xs (i + 1)) (by rw [cl_nI (by omega)]) ?_
  refine ct_Vi (As := [.int (xs (i + 1))]) (rest := []) (wr := [(z0, .inr (1, [.ref z1, .ref z2, .ref z3, .ref z4, .ref z5, .int (bI (!pw)), .int (bI mk), .int (nI lc), .int (lfI lf), .int (nI cs)])), (z1, .inl (t1, 384, .inl gw)), (z2, .inl (t2, 384, .inl gd)), (z3, .inl (t3, 384, .inl gl)), (z4, .inl (t4, 24, .inl (fun j => bI (dy j)))), (z5, .inl (t5, 24, .inl (fun j => bI (lg j))))]) (wn := [(x0, .inr (0, [.ref x1, .ref x2, .ref x3, .ref x4, .ref x5, .int (bI pw9), .int (bI mk9), .int (nI lc9), .int (nI (lf9.getD 0)), .int (nI cs9)])), (x1, .inl (r1, 384, .inl fw9)), (x2, .inl (r2, 384, .inl fd9)), (x3, .inl (r3, 384, .inl fb9)), (x4, .inl (r4, 24, .inl (fun j => bI (dz9 j)))), (x5, .inl (r5, 24, .inl (fun j => bI (lq9 j)))), (z0, .inr (1, [.ref z1, .ref z2, .ref z3, .ref z4, .ref z5, .int (bI (!pw)), .int (bI mk), .int (nI lc), .int (lfI lf), .int (nI cs)])), (z1, .inl (t1, 384, .inl gw)), (z2, .inl (t2, 384, .inl gd)), (z3, .inl (t3, 384, .inl gl)), (z4, .inl (t4, 24, .inl (fun j => bI (dy j)))), (z5, .inl (t5, 24, .inl (fun j => bI (lg j))))]) ⟨hx, hb, hml, hown, hts⟩ (hcX) (cwV 1 hts gL_law_X0_start rfl rfl rfl (by decide +kernel) ⟨Nat.le_of_ble_eq_true rfl, Nat.le_of_ble_eq_true rfl⟩) hK hP hD hS hA [0, 1, 2, 3, 4, 5] [6, 7, 8, 9, 10, 11] [0, 1, 2, 3, 4] [6, 7, 8, 9, 10, 11, 0, 1, 2, 3, 4, 5] rfl rfl (by decide) rfl (by decide) (by decide) rfl (by decide) 0 rfl 0 rfl rfl hl.1 rfl (Nat.le_of_ble_eq_true rfl) dL_law_281 ⟨Nat.le_of_ble_eq_true rfl, Nat.le_of_ble_eq_true rfl⟩ (fun H locs hP hD hS => ?_)
  refine lv_aload_n hx hb dL_law_284 rfl (lv_at hl 1 rfl) ?_
  refine lv_aload_n hx hb dL_law_285 rfl (lv_at hl 3 rfl) ?_
  refine lv_iload_n hx hb dL_law_286 rfl (lv_at hl 0 rfl) ?_
  refine lv_iconst (v := 1) hx hb dL_law_287 (by decide) ?_
  refine lv_iadd hx hb dL_law_288 ?_
  refine tp_as (z := nI (i + 1)) (nI_add i 1) ?_
  refine va_sld hx hb hXs hbl hbA hS (vp_in_nI (by omega) (by omega)) dL_law_289 ?_
  refine tp_as (z := xs (i + 1)) (by rw [cl_nI (by omega)]) ?_
  refine ct_Vi (As := [.int (xs (i + 1))]) (rest := [.int a9]) (wr := [(x0, .inr (0, [.ref x1, .ref x2, .ref x3, .ref x4, .ref x5, .int (bI pw9), .int (bI mk9), .int (nI lc9), .int (nI (lf9.getD 0)), .int (nI cs9)])), (x1, .inl (r1, 384, .inl fw9)), (x2, .inl (r2, 384, .inl fd9)), (x3, .inl (r3, 384, .inl fb9)), (x4, .inl (r4, 24, .inl (fun j => bI (dz9 j)))), (x5, .inl (r5, 24, .inl (fun j => bI (lq9 j))))]) (wn := [(x0, .inr (0, [.ref x1, .ref x2, .ref x3, .ref x4, .ref x5, .int (bI pw9), .int (bI mk9), .int (nI lc9), .int (nI (lf9.getD 0)), .int (nI cs9)])), (x1, .inl (r1, 384, .inl fw9)), (x2, .inl (r2, 384, .inl fd9)), (x3, .inl (r3, 384, .inl fb9)), (x4, .inl (r4, 24, .inl (fun j => bI (dz9 j)))), (x5, .inl (r5, 24, .inl (fun j => bI (lq9 j)))), (z0, .inr (1, [.ref z1, .ref z2, .ref z3, .ref z4, .ref z5, .int (bI (!pw9)), .int (bI mk9), .int (nI lc9), .int (lfI lf9), .int (nI cs9)])), (z1, .inl (t1, 384, .inl gw9)), (z2, .inl (t2, 384, .inl gd9)), (z3, .inl (t3, 384, .inl gl9)), (z4, .inl (t4, 24, .inl (fun j => bI (dy9 j)))), (z5, .inl (t5, 24, .inl (fun j => bI (lg9 j))))]) ⟨hx, hb, hml, hown, hts⟩ (hcM) (cwV 1 hts gL_law_X1_start rfl rfl rfl (by decide +kernel) ⟨Nat.le_of_ble_eq_true rfl, Nat.le_of_ble_eq_true rfl⟩) hK hP hD hS hA [6, 7, 8, 9, 10, 11] [0, 1, 2, 3, 4, 5] [5, 6, 7, 8, 9] [0, 1, 2, 3, 4, 5, 6, 7, 8, 9, 10, 11] rfl rfl (by decide) rfl (by decide) (by decide) rfl (by decide) 1 rfl 0 rfl rfl hl.1 rfl (Nat.le_of_ble_eq_true rfl) dL_law_290 ⟨Nat.le_of_ble_eq_true rfl, Nat.le_of_ble_eq_true rfl⟩ (fun H locs hP hD hS => ?_)
  refine lv_icmp_eq (tgt := 321) hx hb dL_law_293 (by decide) (fun c_1 => ?_) (fun c_1 => ?_)
  · -- T of pc 293
    exact next _ _ hP hD hS
  · -- F of pc 293
    exact absurd rfl c_1
set_option maxHeartbeats 4000000 in
set_option maxRecDepth 100000 in
theorem lc_state {p : Program} {l : Launch} {e : Env} {s : State} {m : MethodId} {below : List Frame} {meth : Method} {c : Code} {b L : Nat} {xs : Nat → Int32} (C0 : lw_At p s m meth c b L xs) {D : va_G} {x0 x1 x2 x3 x4 x5 : Nat} {r1 r2 r3 r4 r5 : ClassId} {z0 z1 z2 z3 z4 z5 : Nat} {t1 t2 t3 t4 t5 : ClassId} {fw fd fb : Nat → Int32} {lq dz : Nat → Bool} {pw mk : Bool} {lc : Nat} {lf : Option Nat} {cs : Nat} {gw gd gl : Nat → Int32} {dy lg : Nat → Bool} {fw9 fd9 fb9 : Nat → Int32} {lq9 dz9 : Nat → Bool} {pw9 mk9 : Bool} {lc9 : Nat} {lf9 : Option Nat} {cs9 : Nat} {gw9 gd9 gl9 : Nat → Int32} {dy9 lg9 : Nat → Bool} {a9 : Int32} {i : Nat} (hi : i + 4 ≤ L) (hL : L ≤ 2048) (hcX : ct_i l yX0_state wsX0_state ({ frames := 0, cells := 0, slots := 0, locals := 0 }) D vwCl (XT r1 r2 r3 r4 r5) [.ref x0, .int (xs (i + 1))] (XW x0 x1 x2 x3 x4 x5 r1 r2 r3 r4 r5 fw fd fb lq dz pw mk lc (lf.getD 0) cs) (XW x0 x1 x2 x3 x4 x5 r1 r2 r3 r4 r5 fw9 fd9 fb9 lq9 dz9 pw9 mk9 lc9 (lf9.getD 0) cs9) a9) (hcM : ct_i l yX1_state wsX1_state ({ frames := 0, cells := 0, slots := 0, locals := 0 }) D vwCl (MT t1 t2 t3 t4 t5) [.ref z0, .int (xs (i + 1))] (MW z0 z1 z2 z3 z4 z5 t1 t2 t3 t4 t5 gw gd gl dy lg (!pw) mk lc lf cs) (MW z0 z1 z2 z3 z4 z5 t1 t2 t3 t4 t5 gw9 gd9 gl9 dy9 lg9 (!pw9) mk9 lc9 lf9 cs9) a9) {H : Heap} {locs : List Loc} {ls : Array Slot} (hK : va_K D vwCl (LT r1 r2 r3 r4 r5 t1 t2 t3 t4 t5) s) (hP : va_P D vwCl (LW x0 x1 x2 x3 x4 x5 r1 r2 r3 r4 r5 z0 z1 z2 z3 z4 z5 t1 t2 t3 t4 t5 fw fd fb lq dz pw mk lc lf cs gw gd gl dy lg) H) (hD : va_D (fun q : Nat => s.heap.size ≤ q) (LW x0 x1 x2 x3 x4 x5 r1 r2 r3 r4 r5 z0 z1 z2 z3 z4 z5 t1 t2 t3 t4 t5 fw fd fb lq dz pw mk lc lf cs gw gd gl dy lg)) (hS : va_S (fun q : Nat => s.heap.size ≤ q) s.heap H locs) (hl : lv_has ls 4 [(3, .int (nI i)), (2, .ref z0), (1, .ref x0), (0, .ref b)]) (next : ∀ (H : Heap) (locs : List Loc), va_P D vwCl (LW x0 x1 x2 x3 x4 x5 r1 r2 r3 r4 r5 z0 z1 z2 z3 z4 z5 t1 t2 t3 t4 t5 fw9 fd9 fb9 lq9 dz9 pw9 mk9 lc9 lf9 cs9 gw9 gd9 gl9 dy9 lg9) H → va_D (fun q : Nat => s.heap.size ≤ q) (LW x0 x1 x2 x3 x4 x5 r1 r2 r3 r4 r5 z0 z1 z2 z3 z4 z5 t1 t2 t3 t4 t5 fw9 fd9 fb9 lq9 dz9 pw9 mk9 lc9 lf9 cs9 gw9 gd9 gl9 dy9 lg9) → va_S (fun q : Nat => s.heap.size ≤ q) s.heap H locs → W p l e room_1 s m #[Value.ref b] below meth c H locs 12 2420 (lw_Z below #[Value.ref b] s) (F0 m 321 ls [])) : W p l e room_1 s m #[Value.ref b] below meth c H locs 12 2420 (lw_Z below #[Value.ref b] s) (F0 m 298 ls []) := by
  obtain ⟨hx, hb, hr, hml, hown, hts, hXs, hbl, hlocks, hgv⟩ := C0
  have hts : ∀ w ∈ wsL_law, w.before #[Value.ref b] s = true := fun w h => hts w (wsL_law_in w h)
  have hown : s.vm.findClass RL = some m.cls := hown
  have hA : ∀ q : Nat, s.heap.size ≤ q → (fun q : Nat => s.heap.size ≤ q) q := fun _ h => h
  have hbA : ¬ (fun q : Nat => s.heap.size ≤ q) b := Nat.not_le.mpr hbl
  have hP : va_P D vwCl [(x0, .inr (0, [.ref x1, .ref x2, .ref x3, .ref x4, .ref x5, .int (bI pw), .int (bI mk), .int (nI lc), .int (nI (lf.getD 0)), .int (nI cs)])), (x1, .inl (r1, 384, .inl fw)), (x2, .inl (r2, 384, .inl fd)), (x3, .inl (r3, 384, .inl fb)), (x4, .inl (r4, 24, .inl (fun j => bI (dz j)))), (x5, .inl (r5, 24, .inl (fun j => bI (lq j)))), (z0, .inr (1, [.ref z1, .ref z2, .ref z3, .ref z4, .ref z5, .int (bI (!pw)), .int (bI mk), .int (nI lc), .int (lfI lf), .int (nI cs)])), (z1, .inl (t1, 384, .inl gw)), (z2, .inl (t2, 384, .inl gd)), (z3, .inl (t3, 384, .inl gl)), (z4, .inl (t4, 24, .inl (fun j => bI (dy j)))), (z5, .inl (t5, 24, .inl (fun j => bI (lg j))))] H := hP
  have hD : va_D (fun q : Nat => s.heap.size ≤ q) [(x0, .inr (0, [.ref x1, .ref x2, .ref x3, .ref x4, .ref x5, .int (bI pw), .int (bI mk), .int (nI lc), .int (nI (lf.getD 0)), .int (nI cs)])), (x1, .inl (r1, 384, .inl fw)), (x2, .inl (r2, 384, .inl fd)), (x3, .inl (r3, 384, .inl fb)), (x4, .inl (r4, 24, .inl (fun j => bI (dz j)))), (x5, .inl (r5, 24, .inl (fun j => bI (lq j)))), (z0, .inr (1, [.ref z1, .ref z2, .ref z3, .ref z4, .ref z5, .int (bI (!pw)), .int (bI mk), .int (nI lc), .int (lfI lf), .int (nI cs)])), (z1, .inl (t1, 384, .inl gw)), (z2, .inl (t2, 384, .inl gd)), (z3, .inl (t3, 384, .inl gl)), (z4, .inl (t4, 24, .inl (fun j => bI (dy j)))), (z5, .inl (t5, 24, .inl (fun j => bI (lg j))))] := hD
  have hK : va_K D vwCl [(r1, .int), (r2, .int), (r3, .int), (r4, .boolean), (r5, .boolean), (t1, .byte), (t2, .byte), (t3, .byte), (t4, .boolean), (t5, .boolean)] s := hK
  refine lv_aload_n hx hb dL_law_298 rfl (lv_at hl 2 rfl) ?_
  refine lv_aload_n hx hb dL_law_299 rfl (lv_at hl 3 rfl) ?_
  refine lv_iload_n hx hb dL_law_300 rfl (lv_at hl 0 rfl) ?_
  refine lv_iconst (v := 1) hx hb dL_law_301 (by decide) ?_
  refine lv_iadd hx hb dL_law_302 ?_
  refine tp_as (z := nI (i + 1)) (nI_add i 1) ?_
  refine va_sld hx hb hXs hbl hbA hS (vp_in_nI (by omega) (by omega)) dL_law_303 ?_
  refine tp_as (z := xs (i + 1)) (by rw [cl_nI (by omega)]) ?_
  refine ct_Vi (As := [.int (xs (i + 1))]) (rest := []) (wr := [(z0, .inr (1, [.ref z1, .ref z2, .ref z3, .ref z4, .ref z5, .int (bI (!pw)), .int (bI mk), .int (nI lc), .int (lfI lf), .int (nI cs)])), (z1, .inl (t1, 384, .inl gw)), (z2, .inl (t2, 384, .inl gd)), (z3, .inl (t3, 384, .inl gl)), (z4, .inl (t4, 24, .inl (fun j => bI (dy j)))), (z5, .inl (t5, 24, .inl (fun j => bI (lg j))))]) (wn := [(x0, .inr (0, [.ref x1, .ref x2, .ref x3, .ref x4, .ref x5, .int (bI pw9), .int (bI mk9), .int (nI lc9), .int (nI (lf9.getD 0)), .int (nI cs9)])), (x1, .inl (r1, 384, .inl fw9)), (x2, .inl (r2, 384, .inl fd9)), (x3, .inl (r3, 384, .inl fb9)), (x4, .inl (r4, 24, .inl (fun j => bI (dz9 j)))), (x5, .inl (r5, 24, .inl (fun j => bI (lq9 j)))), (z0, .inr (1, [.ref z1, .ref z2, .ref z3, .ref z4, .ref z5, .int (bI (!pw)), .int (bI mk), .int (nI lc), .int (lfI lf), .int (nI cs)])), (z1, .inl (t1, 384, .inl gw)), (z2, .inl (t2, 384, .inl gd)), (z3, .inl (t3, 384, .inl gl)), (z4, .inl (t4, 24, .inl (fun j => bI (dy j)))), (z5, .inl (t5, 24, .inl (fun j => bI (lg j))))]) ⟨hx, hb, hml, hown, hts⟩ (hcX) (cwV 1 hts gL_law_X0_state rfl rfl rfl (by decide +kernel) ⟨Nat.le_of_ble_eq_true rfl, Nat.le_of_ble_eq_true rfl⟩) hK hP hD hS hA [0, 1, 2, 3, 4, 5] [6, 7, 8, 9, 10, 11] [0, 1, 2, 3, 4] [6, 7, 8, 9, 10, 11, 0, 1, 2, 3, 4, 5] rfl rfl (by decide) rfl (by decide) (by decide) rfl (by decide) 0 rfl 0 rfl rfl hl.1 rfl (Nat.le_of_ble_eq_true rfl) dL_law_304 ⟨Nat.le_of_ble_eq_true rfl, Nat.le_of_ble_eq_true rfl⟩ (fun H locs hP hD hS => ?_)
  refine lv_aload_n hx hb dL_law_307 rfl (lv_at hl 1 rfl) ?_
  refine lv_aload_n hx hb dL_law_308 rfl (lv_at hl 3 rfl) ?_
  refine lv_iload_n hx hb dL_law_309 rfl (lv_at hl 0 rfl) ?_
  refine lv_iconst (v := 1) hx hb dL_law_310 (by decide) ?_
  refine lv_iadd hx hb dL_law_311 ?_
  refine tp_as (z := nI (i + 1)) (nI_add i 1) ?_
  refine va_sld hx hb hXs hbl hbA hS (vp_in_nI (by omega) (by omega)) dL_law_312 ?_
  refine tp_as (z := xs (i + 1)) (by rw [cl_nI (by omega)]) ?_
  refine ct_Vi (As := [.int (xs (i + 1))]) (rest := [.int a9]) (wr := [(x0, .inr (0, [.ref x1, .ref x2, .ref x3, .ref x4, .ref x5, .int (bI pw9), .int (bI mk9), .int (nI lc9), .int (nI (lf9.getD 0)), .int (nI cs9)])), (x1, .inl (r1, 384, .inl fw9)), (x2, .inl (r2, 384, .inl fd9)), (x3, .inl (r3, 384, .inl fb9)), (x4, .inl (r4, 24, .inl (fun j => bI (dz9 j)))), (x5, .inl (r5, 24, .inl (fun j => bI (lq9 j))))]) (wn := [(x0, .inr (0, [.ref x1, .ref x2, .ref x3, .ref x4, .ref x5, .int (bI pw9), .int (bI mk9), .int (nI lc9), .int (nI (lf9.getD 0)), .int (nI cs9)])), (x1, .inl (r1, 384, .inl fw9)), (x2, .inl (r2, 384, .inl fd9)), (x3, .inl (r3, 384, .inl fb9)), (x4, .inl (r4, 24, .inl (fun j => bI (dz9 j)))), (x5, .inl (r5, 24, .inl (fun j => bI (lq9 j)))), (z0, .inr (1, [.ref z1, .ref z2, .ref z3, .ref z4, .ref z5, .int (bI (!pw9)), .int (bI mk9), .int (nI lc9), .int (lfI lf9), .int (nI cs9)])), (z1, .inl (t1, 384, .inl gw9)), (z2, .inl (t2, 384, .inl gd9)), (z3, .inl (t3, 384, .inl gl9)), (z4, .inl (t4, 24, .inl (fun j => bI (dy9 j)))), (z5, .inl (t5, 24, .inl (fun j => bI (lg9 j))))]) ⟨hx, hb, hml, hown, hts⟩ (hcM) (cwV 1 hts gL_law_X1_state rfl rfl rfl (by decide +kernel) ⟨Nat.le_of_ble_eq_true rfl, Nat.le_of_ble_eq_true rfl⟩) hK hP hD hS hA [6, 7, 8, 9, 10, 11] [0, 1, 2, 3, 4, 5] [5, 6, 7, 8, 9] [0, 1, 2, 3, 4, 5, 6, 7, 8, 9, 10, 11] rfl rfl (by decide) rfl (by decide) (by decide) rfl (by decide) 1 rfl 0 rfl rfl hl.1 rfl (Nat.le_of_ble_eq_true rfl) dL_law_313 ⟨Nat.le_of_ble_eq_true rfl, Nat.le_of_ble_eq_true rfl⟩ (fun H locs hP hD hS => ?_)
  refine lv_icmp_eq (tgt := 321) hx hb dL_law_316 (by decide) (fun c_1 => ?_) (fun c_1 => ?_)
  · -- T of pc 316
    exact next _ _ hP hD hS
  · -- F of pc 316
    exact absurd rfl c_1
end
section
/-! The law's loop. -/
theorem hd_gt {L i : Nat} (hL : L ≤ 2048) (hi : i ≤ 2100) : nI L - 4 < nI i ↔ L < i + 4 := by
  rw [Int32.lt_iff_toInt_lt, show (4 : Int32) = nI 4 from rfl, pk_sub_toInt (by omega) (by decide), nI_toInt (by omega)]
  omega
set_option maxHeartbeats 4000000 in
set_option maxRecDepth 100000 in
theorem law_exit {p : Program} {l : Launch} {e : Env} {s : State} {m : MethodId} {below : List Frame} {meth : Method} {c : Code} {b L : Nat} {xs : Nat → Int32} (C0 : lw_At p s m meth c b L xs) {D : va_G} {x0 x1 x2 x3 x4 x5 : Nat} {r1 r2 r3 r4 r5 : ClassId} {z0 z1 z2 z3 z4 z5 : Nat} {t1 t2 t3 t4 t5 : ClassId} {fw fd fb : Nat → Int32} {lq dz : Nat → Bool} {pw mk : Bool} {lc : Nat} {lf : Option Nat} {cs : Nat} {gw gd gl : Nat → Int32} {dy lg : Nat → Bool} {i : Nat} (hi : L < i + 4) (hi2 : i ≤ L + 3) (hL : L ≤ 2048) {H : Heap} {locs : List Loc} {ls : Array Slot} (hK : va_K D vwCl (LT r1 r2 r3 r4 r5 t1 t2 t3 t4 t5) s) (hP : va_P D vwCl (LW x0 x1 x2 x3 x4 x5 r1 r2 r3 r4 r5 z0 z1 z2 z3 z4 z5 t1 t2 t3 t4 t5 fw fd fb lq dz pw mk lc lf cs gw gd gl dy lg) H) (hD : va_D (fun q : Nat => s.heap.size ≤ q) (LW x0 x1 x2 x3 x4 x5 r1 r2 r3 r4 r5 z0 z1 z2 z3 z4 z5 t1 t2 t3 t4 t5 fw fd fb lq dz pw mk lc lf cs gw gd gl dy lg)) (hS : va_S (fun q : Nat => s.heap.size ≤ q) s.heap H locs) (hl : lv_has ls 4 [(3, .int (nI i)), (2, .ref z0), (1, .ref x0), (0, .ref b)]) : W p l e room_1 s m #[Value.ref b] below meth c H locs 12 2420 (lw_Z below #[Value.ref b] s) (F0 m 18 ls []) := by
  obtain ⟨hx, hb, hr, hml, hown, hts, hXs, hbl, hlocks, hgv⟩ := C0
  have hts : ∀ w ∈ wsL_law, w.before #[Value.ref b] s = true := fun w h => hts w (wsL_law_in w h)
  have hown : s.vm.findClass RL = some m.cls := hown
  have hA : ∀ q : Nat, s.heap.size ≤ q → (fun q : Nat => s.heap.size ≤ q) q := fun _ h => h
  have hbA : ¬ (fun q : Nat => s.heap.size ≤ q) b := Nat.not_le.mpr hbl
  have hP : va_P D vwCl [(x0, .inr (0, [.ref x1, .ref x2, .ref x3, .ref x4, .ref x5, .int (bI pw), .int (bI mk), .int (nI lc), .int (nI (lf.getD 0)), .int (nI cs)])), (x1, .inl (r1, 384, .inl fw)), (x2, .inl (r2, 384, .inl fd)), (x3, .inl (r3, 384, .inl fb)), (x4, .inl (r4, 24, .inl (fun j => bI (dz j)))), (x5, .inl (r5, 24, .inl (fun j => bI (lq j)))), (z0, .inr (1, [.ref z1, .ref z2, .ref z3, .ref z4, .ref z5, .int (bI (!pw)), .int (bI mk), .int (nI lc), .int (lfI lf), .int (nI cs)])), (z1, .inl (t1, 384, .inl gw)), (z2, .inl (t2, 384, .inl gd)), (z3, .inl (t3, 384, .inl gl)), (z4, .inl (t4, 24, .inl (fun j => bI (dy j)))), (z5, .inl (t5, 24, .inl (fun j => bI (lg j))))] H := hP
  have hD : va_D (fun q : Nat => s.heap.size ≤ q) [(x0, .inr (0, [.ref x1, .ref x2, .ref x3, .ref x4, .ref x5, .int (bI pw), .int (bI mk), .int (nI lc), .int (nI (lf.getD 0)), .int (nI cs)])), (x1, .inl (r1, 384, .inl fw)), (x2, .inl (r2, 384, .inl fd)), (x3, .inl (r3, 384, .inl fb)), (x4, .inl (r4, 24, .inl (fun j => bI (dz j)))), (x5, .inl (r5, 24, .inl (fun j => bI (lq j)))), (z0, .inr (1, [.ref z1, .ref z2, .ref z3, .ref z4, .ref z5, .int (bI (!pw)), .int (bI mk), .int (nI lc), .int (lfI lf), .int (nI cs)])), (z1, .inl (t1, 384, .inl gw)), (z2, .inl (t2, 384, .inl gd)), (z3, .inl (t3, 384, .inl gl)), (z4, .inl (t4, 24, .inl (fun j => bI (dy j)))), (z5, .inl (t5, 24, .inl (fun j => bI (lg j))))] := hD
  have hK : va_K D vwCl [(r1, .int), (r2, .int), (r3, .int), (r4, .boolean), (r5, .boolean), (t1, .byte), (t2, .byte), (t3, .byte), (t4, .boolean), (t5, .boolean)] s := hK
  refine lv_iload_n hx hb dL_law_18 rfl (lv_at hl 0 rfl) ?_
  refine lv_aload_n hx hb dL_law_19 rfl (lv_at hl 3 rfl) ?_
  refine va_slen hx hb hXs hbl hbA hS dL_law_20 ?_
  refine tp_as (z := nI L) rfl ?_
  refine lv_iconst (v := 4) hx hb dL_law_21 (by decide) ?_
  refine lv_isub hx hb dL_law_22 ?_
  refine lv_icmp_gt (tgt := 327) hx hb dL_law_23 (by decide) (fun c_1 => ?_) (fun c_1 => ?_)
  · -- T of pc 23
    refine lv_iconst (v := 1) hx hb dL_law_327 (by decide) ?_
    refine va_forget (fun q hq => hS.2.2 q hq) ?_
    exact lw_ret hx hb hr hlocks dL_law_328
  · -- F of pc 23
    exact absurd ((hd_gt hL (by omega)).mpr hi) c_1
set_option maxHeartbeats 4000000 in
set_option maxRecDepth 100000 in
theorem law_head {p : Program} {l : Launch} {e : Env} {s : State} {m : MethodId} {below : List Frame} {meth : Method} {c : Code} {b L : Nat} {xs : Nat → Int32} (C0 : lw_At p s m meth c b L xs) {D : va_G} {x0 x1 x2 x3 x4 x5 : Nat} {r1 r2 r3 r4 r5 : ClassId} {z0 z1 z2 z3 z4 z5 : Nat} {t1 t2 t3 t4 t5 : ClassId} {fw fd fb : Nat → Int32} {lq dz : Nat → Bool} {pw mk : Bool} {lc : Nat} {lf : Option Nat} {cs : Nat} {gw gd gl : Nat → Int32} {dy lg : Nat → Bool} {i : Nat} (hi : i + 4 ≤ L) (hL : L ≤ 2048) {H : Heap} {locs : List Loc} {ls : Array Slot} (hK : va_K D vwCl (LT r1 r2 r3 r4 r5 t1 t2 t3 t4 t5) s) (hP : va_P D vwCl (LW x0 x1 x2 x3 x4 x5 r1 r2 r3 r4 r5 z0 z1 z2 z3 z4 z5 t1 t2 t3 t4 t5 fw fd fb lq dz pw mk lc lf cs gw gd gl dy lg) H) (hD : va_D (fun q : Nat => s.heap.size ≤ q) (LW x0 x1 x2 x3 x4 x5 r1 r2 r3 r4 r5 z0 z1 z2 z3 z4 z5 t1 t2 t3 t4 t5 fw fd fb lq dz pw mk lc lf cs gw gd gl dy lg)) (hS : va_S (fun q : Nat => s.heap.size ≤ q) s.heap H locs) (hl : lv_has ls 4 [(3, .int (nI i)), (2, .ref z0), (1, .ref x0), (0, .ref b)]) (next : W p l e room_1 s m #[Value.ref b] below meth c H locs 12 2420 (lw_Z below #[Value.ref b] s) (F0 m 32 ls [.int (xs i &&& 15)])) : W p l e room_1 s m #[Value.ref b] below meth c H locs 12 2420 (lw_Z below #[Value.ref b] s) (F0 m 18 ls []) := by
  obtain ⟨hx, hb, hr, hml, hown, hts, hXs, hbl, hlocks, hgv⟩ := C0
  have hts : ∀ w ∈ wsL_law, w.before #[Value.ref b] s = true := fun w h => hts w (wsL_law_in w h)
  have hown : s.vm.findClass RL = some m.cls := hown
  have hA : ∀ q : Nat, s.heap.size ≤ q → (fun q : Nat => s.heap.size ≤ q) q := fun _ h => h
  have hbA : ¬ (fun q : Nat => s.heap.size ≤ q) b := Nat.not_le.mpr hbl
  have hP : va_P D vwCl [(x0, .inr (0, [.ref x1, .ref x2, .ref x3, .ref x4, .ref x5, .int (bI pw), .int (bI mk), .int (nI lc), .int (nI (lf.getD 0)), .int (nI cs)])), (x1, .inl (r1, 384, .inl fw)), (x2, .inl (r2, 384, .inl fd)), (x3, .inl (r3, 384, .inl fb)), (x4, .inl (r4, 24, .inl (fun j => bI (dz j)))), (x5, .inl (r5, 24, .inl (fun j => bI (lq j)))), (z0, .inr (1, [.ref z1, .ref z2, .ref z3, .ref z4, .ref z5, .int (bI (!pw)), .int (bI mk), .int (nI lc), .int (lfI lf), .int (nI cs)])), (z1, .inl (t1, 384, .inl gw)), (z2, .inl (t2, 384, .inl gd)), (z3, .inl (t3, 384, .inl gl)), (z4, .inl (t4, 24, .inl (fun j => bI (dy j)))), (z5, .inl (t5, 24, .inl (fun j => bI (lg j))))] H := hP
  have hD : va_D (fun q : Nat => s.heap.size ≤ q) [(x0, .inr (0, [.ref x1, .ref x2, .ref x3, .ref x4, .ref x5, .int (bI pw), .int (bI mk), .int (nI lc), .int (nI (lf.getD 0)), .int (nI cs)])), (x1, .inl (r1, 384, .inl fw)), (x2, .inl (r2, 384, .inl fd)), (x3, .inl (r3, 384, .inl fb)), (x4, .inl (r4, 24, .inl (fun j => bI (dz j)))), (x5, .inl (r5, 24, .inl (fun j => bI (lq j)))), (z0, .inr (1, [.ref z1, .ref z2, .ref z3, .ref z4, .ref z5, .int (bI (!pw)), .int (bI mk), .int (nI lc), .int (lfI lf), .int (nI cs)])), (z1, .inl (t1, 384, .inl gw)), (z2, .inl (t2, 384, .inl gd)), (z3, .inl (t3, 384, .inl gl)), (z4, .inl (t4, 24, .inl (fun j => bI (dy j)))), (z5, .inl (t5, 24, .inl (fun j => bI (lg j))))] := hD
  have hK : va_K D vwCl [(r1, .int), (r2, .int), (r3, .int), (r4, .boolean), (r5, .boolean), (t1, .byte), (t2, .byte), (t3, .byte), (t4, .boolean), (t5, .boolean)] s := hK
  refine lv_iload_n hx hb dL_law_18 rfl (lv_at hl 0 rfl) ?_
  refine lv_aload_n hx hb dL_law_19 rfl (lv_at hl 3 rfl) ?_
  refine va_slen hx hb hXs hbl hbA hS dL_law_20 ?_
  refine tp_as (z := nI L) rfl ?_
  refine lv_iconst (v := 4) hx hb dL_law_21 (by decide) ?_
  refine lv_isub hx hb dL_law_22 ?_
  refine lv_icmp_gt (tgt := 327) hx hb dL_law_23 (by decide) (fun c_1 => ?_) (fun c_1 => ?_)
  · -- T of pc 23
    exact absurd ((hd_gt hL (by omega)).mp c_1) (by omega)
  · -- F of pc 23
    refine lv_aload_n hx hb dL_law_26 rfl (lv_at hl 3 rfl) ?_
    refine lv_iload_n hx hb dL_law_27 rfl (lv_at hl 0 rfl) ?_
    refine va_sld hx hb hXs hbl hbA hS (vp_in_nI (by omega) (by omega)) dL_law_28 ?_
    refine tp_as (z := xs i) (by rw [cl_nI (by omega)]) ?_
    refine lv_bipush (v := 15) hx hb dL_law_29 (by decide) ?_
    refine lv_iand hx hb dL_law_31 ?_
    exact next
set_option maxHeartbeats 4000000 in
set_option maxRecDepth 100000 in
theorem law_loop {p : Program} {l : Launch} {e : Env} {s : State} {m : MethodId} {below : List Frame} {meth : Method} {c : Code} {b L : Nat} {xs : Nat → Int32} (C0 : lw_At p s m meth c b L xs) {D : va_G} {x0 x1 x2 x3 x4 x5 : Nat} {r1 r2 r3 r4 r5 : ClassId} {z0 z1 z2 z3 z4 z5 : Nat} {t1 t2 t3 t4 t5 : ClassId} (hL : L ≤ 2048) : ∀ (n i : Nat), i ≤ L + 3 → L ≤ i + 4 * n → ∀ (fw fd fb : Nat → Int32) (lq dz : Nat → Bool) (pw mk : Bool) (lc : Nat) (lf : Option Nat) (cs : Nat) (gw gd gl : Nat → Int32) (dy lg : Nat → Bool), Rel fw fd fb lq dz pw mk lc lf cs gw gd gl dy lg → ∀ (H : Heap) (locs : List Loc) (ls : Array Slot), va_K D vwCl (LT r1 r2 r3 r4 r5 t1 t2 t3 t4 t5) s → va_P D vwCl (LW x0 x1 x2 x3 x4 x5 r1 r2 r3 r4 r5 z0 z1 z2 z3 z4 z5 t1 t2 t3 t4 t5 fw fd fb lq dz pw mk lc lf cs gw gd gl dy lg) H → va_D (fun q : Nat => s.heap.size ≤ q) (LW x0 x1 x2 x3 x4 x5 r1 r2 r3 r4 r5 z0 z1 z2 z3 z4 z5 t1 t2 t3 t4 t5 fw fd fb lq dz pw mk lc lf cs gw gd gl dy lg) → va_S (fun q : Nat => s.heap.size ≤ q) s.heap H locs → lv_has ls 4 [(3, .int (nI i)), (2, .ref z0), (1, .ref x0), (0, .ref b)] → W p l e room_1 s m #[Value.ref b] below meth c H locs 12 2420 (lw_Z below #[Value.ref b] s) (F0 m 18 ls []) := by
  intro n
  induction n with
  | zero =>
    intro i h1 h2 fw fd fb lq dz pw mk lc lf cs gw gd gl dy lg hR H locs ls hK hP hD hS hl
    exact law_exit C0 (by omega) h1 hL hK hP hD hS hl
  | succ n ih =>
    intro i h1 h2 fw fd fb lq dz pw mk lc lf cs gw gd gl dy lg hR H locs ls hK hP hD hS hl
    rcases Nat.lt_or_ge L (i + 4) with hq | hi
    · exact law_exit C0 hq h1 hL hK hP hD hS hl
    · refine law_head C0 hi hL hK hP hD hS hl ?_
      obtain ⟨hx, hb, hr, hml, hown, hts, hXs, hbl, hlocks, hgv⟩ := id C0
      have nx : ∀ (fw fd fb : Nat → Int32) (lq dz : Nat → Bool) (pw mk : Bool) (lc : Nat) (lf : Option Nat) (cs : Nat) (gw gd gl : Nat → Int32) (dy lg : Nat → Bool), Rel fw fd fb lq dz pw mk lc lf cs gw gd gl dy lg → ∀ (H : Heap) (locs : List Loc), va_P D vwCl (LW x0 x1 x2 x3 x4 x5 r1 r2 r3 r4 r5 z0 z1 z2 z3 z4 z5 t1 t2 t3 t4 t5 fw fd fb lq dz pw mk lc lf cs gw gd gl dy lg) H → va_D (fun q : Nat => s.heap.size ≤ q) (LW x0 x1 x2 x3 x4 x5 r1 r2 r3 r4 r5 z0 z1 z2 z3 z4 z5 t1 t2 t3 t4 t5 fw fd fb lq dz pw mk lc lf cs gw gd gl dy lg) → va_S (fun q : Nat => s.heap.size ≤ q) s.heap H locs → W p l e room_1 s m #[Value.ref b] below meth c H locs 12 2420 (lw_Z below #[Value.ref b] s) (F0 m 321 ls []) := by
        intro fw fd fb lq dz pw mk lc lf cs gw gd gl dy lg hR H locs hP hD hS
        refine lv_iinc (v := nI (i + 4)) (lv' := [(3, .int (nI (i + 4))), (2, .ref z0), (1, .ref x0), (0, .ref b)]) hx hb dL_law_321 hl (k := 0) rfl (nI_add i 4) (by decide) rfl (fun ls hl => ?_)
        refine lv_goto (tgt := 18) hx hb dL_law_324 (by decide) ?_
        exact ih (i + 4) (by omega) (by omega) fw fd fb lq dz pw mk lc lf cs gw gd gl dy lg hR H locs ls hK hP hD hS hl
      obtain ⟨j, hj, ej⟩ := pk_andE (xs i) (m := 15) 4 rfl
      refine tp_as ej ?_
      match j, hj with
      | 0, _ =>
        refine lv_tableIn (tgt := 84) hx hb dL_law_32 (by decide) (by decide) rfl (by decide) ?_
        obtain ⟨fw9, fd9, fb9, lq9, dz9, pw9, mk9, lc9, lf9, cs9, gw9, gd9, gl9, dy9, lg9, a9, hcX, hcM, hR9⟩ := j_write l D x0 x1 x2 x3 x4 x5 r1 r2 r3 r4 r5 z0 z1 z2 z3 z4 z5 t1 t2 t3 t4 t5 fw fd fb lq dz pw mk lc lf cs gw gd gl dy lg hR (xs (i + 1)) (xs (i + 2)) (xs (i + 3))
        exact lc_write C0 hi hL hcX hcM hK hP hD hS hl (fun H locs hP hD hS => nx _ _ _ _ _ _ _ _ _ _ _ _ _ _ _ hR9 H locs hP hD hS)
      | 1, _ =>
        refine lv_tableIn (tgt := 127) hx hb dL_law_32 (by decide) (by decide) rfl (by decide) ?_
        obtain ⟨fw9, fd9, fb9, lq9, dz9, pw9, mk9, lc9, lf9, cs9, gw9, gd9, gl9, dy9, lg9, a9, hcX, hcM, hR9⟩ := j_read l D x0 x1 x2 x3 x4 x5 r1 r2 r3 r4 r5 z0 z1 z2 z3 z4 z5 t1 t2 t3 t4 t5 fw fd fb lq dz pw mk lc lf cs gw gd gl dy lg hR (xs (i + 1)) (xs (i + 2))
        exact lc_read C0 hi hL hcX hcM hK hP hD hS hl (fun H locs hP hD hS => nx _ _ _ _ _ _ _ _ _ _ _ _ _ _ _ hR9 H locs hP hD hS)
      | 2, _ =>
        refine lv_tableIn (tgt := 160) hx hb dL_law_32 (by decide) (by decide) rfl (by decide) ?_
        obtain ⟨fw9, fd9, fb9, lq9, dz9, pw9, mk9, lc9, lf9, cs9, gw9, gd9, gl9, dy9, lg9, a9, hcX, hcM, hR9⟩ := j_disk l D x0 x1 x2 x3 x4 x5 r1 r2 r3 r4 r5 z0 z1 z2 z3 z4 z5 t1 t2 t3 t4 t5 fw fd fb lq dz pw mk lc lf cs gw gd gl dy lg hR (xs (i + 1)) (xs (i + 2))
        exact lc_disk C0 hi hL hcX hcM hK hP hD hS hl (fun H locs hP hD hS => nx _ _ _ _ _ _ _ _ _ _ _ _ _ _ _ hR9 H locs hP hD hS)
      | 3, _ =>
        refine lv_tableIn (tgt := 193) hx hb dL_law_32 (by decide) (by decide) rfl (by decide) ?_
        obtain ⟨fw9, fd9, fb9, lq9, dz9, pw9, mk9, lc9, lf9, cs9, gw9, gd9, gl9, dy9, lg9, a9, hcX, hcM, hR9⟩ := j_dirty l D x0 x1 x2 x3 x4 x5 r1 r2 r3 r4 r5 z0 z1 z2 z3 z4 z5 t1 t2 t3 t4 t5 fw fd fb lq dz pw mk lc lf cs gw gd gl dy lg hR (xs (i + 1))
        exact lc_dirty C0 hi hL hcX hcM hK hP hD hS hl (fun H locs hP hD hS => nx _ _ _ _ _ _ _ _ _ _ _ _ _ _ _ hR9 H locs hP hD hS)
      | 4, _ =>
        refine lv_tableIn (tgt := 216) hx hb dL_law_32 (by decide) (by decide) rfl (by decide) ?_
        obtain ⟨fw9, fd9, fb9, lq9, dz9, pw9, mk9, lc9, lf9, cs9, gw9, gd9, gl9, dy9, lg9, a9, hcX, hcM, hR9⟩ := j_commit l D x0 x1 x2 x3 x4 x5 r1 r2 r3 r4 r5 z0 z1 z2 z3 z4 z5 t1 t2 t3 t4 t5 fw fd fb lq dz pw mk lc lf cs gw gd gl dy lg hR 
        exact lc_commit C0 hi hL hcX hcM hK hP hD hS hl (fun H locs hP hD hS => nx _ _ _ _ _ _ _ _ _ _ _ _ _ _ _ hR9 H locs hP hD hS)
      | 5, _ =>
        refine lv_tableIn (tgt := 229) hx hb dL_law_32 (by decide) (by decide) rfl (by decide) ?_
        obtain ⟨fw9, fd9, fb9, lq9, dz9, pw9, mk9, lc9, lf9, cs9, gw9, gd9, gl9, dy9, lg9, a9, hcX, hcM, hR9⟩ := j_revert l D x0 x1 x2 x3 x4 x5 r1 r2 r3 r4 r5 z0 z1 z2 z3 z4 z5 t1 t2 t3 t4 t5 fw fd fb lq dz pw mk lc lf cs gw gd gl dy lg hR 
        exact lc_revert C0 hi hL hcX hcM hK hP hD hS hl (fun H locs hP hD hS => nx _ _ _ _ _ _ _ _ _ _ _ _ _ _ _ hR9 H locs hP hD hS)
      | 6, _ =>
        refine lv_tableIn (tgt := 242) hx hb dL_law_32 (by decide) (by decide) rfl (by decide) ?_
        obtain ⟨fw9, fd9, fb9, lq9, dz9, pw9, mk9, lc9, lf9, cs9, gw9, gd9, gl9, dy9, lg9, a9, hcX, hcM, hR9⟩ := j_cut l D x0 x1 x2 x3 x4 x5 r1 r2 r3 r4 r5 z0 z1 z2 z3 z4 z5 t1 t2 t3 t4 t5 fw fd fb lq dz pw mk lc lf cs gw gd gl dy lg hR (xs (i + 1)) (xs (i + 2))
        exact lc_cut C0 hi hL hcX hcM hK hP hD hS hl (fun H locs hP hD hS => nx _ _ _ _ _ _ _ _ _ _ _ _ _ _ _ hR9 H locs hP hD hS)
      | 7, _ =>
        refine lv_tableIn (tgt := 275) hx hb dL_law_32 (by decide) (by decide) rfl (by decide) ?_
        obtain ⟨fw9, fd9, fb9, lq9, dz9, pw9, mk9, lc9, lf9, cs9, gw9, gd9, gl9, dy9, lg9, a9, hcX, hcM, hR9⟩ := j_start l D x0 x1 x2 x3 x4 x5 r1 r2 r3 r4 r5 z0 z1 z2 z3 z4 z5 t1 t2 t3 t4 t5 fw fd fb lq dz pw mk lc lf cs gw gd gl dy lg hR (xs (i + 1))
        exact lc_start C0 hi hL hcX hcM hK hP hD hS hl (fun H locs hP hD hS => nx _ _ _ _ _ _ _ _ _ _ _ _ _ _ _ hR9 H locs hP hD hS)
      | 8, _ =>
        refine lv_tableIn (tgt := 298) hx hb dL_law_32 (by decide) (by decide) rfl (by decide) ?_
        obtain ⟨fw9, fd9, fb9, lq9, dz9, pw9, mk9, lc9, lf9, cs9, gw9, gd9, gl9, dy9, lg9, a9, hcX, hcM, hR9⟩ := j_state l D x0 x1 x2 x3 x4 x5 r1 r2 r3 r4 r5 z0 z1 z2 z3 z4 z5 t1 t2 t3 t4 t5 fw fd fb lq dz pw mk lc lf cs gw gd gl dy lg hR (xs (i + 1))
        exact lc_state C0 hi hL hcX hcM hK hP hD hS hl (fun H locs hP hD hS => nx _ _ _ _ _ _ _ _ _ _ _ _ _ _ _ hR9 H locs hP hD hS)
      | j + 9, hj =>
        refine lv_tableOut (tgt := 321) hx hb dL_law_32 (Or.inr (by rw [nI_toInt (by omega)]; omega)) (by decide) ?_
        exact nx _ _ _ _ _ _ _ _ _ _ _ _ _ _ _ hR H locs hP hD hS
end
section
/-! The law from its entry, and the claim. -/
theorem rel0 : Rel (fun _ => 0) (fun _ => 0) (fun _ => 0) (fun _ => false) (fun _ => false) true false 0 (some 0) 0 (fun _ => 0) (fun _ => 0) (fun _ => 0) (fun _ => false) (fun _ => false) := by
  have e : EQ (fun _ => 0) (fun _ => 0) := fun _ _ _ _ => show (0 : Int32) = 0 &&& 255 by decide
  exact ⟨by decide, fun j hj => by cases hj; decide, by decide, e, fun _ => ⟨rfl, e, fun _ _ => rfl⟩, fun q => absurd q (by decide)⟩
theorem dfX0 : ∀ j, j < 10 → defaultValue (tyX0 j) = vp_V [.null, .null, .null, .null, .null, .int 0, .int 0, .int 0, .int 0, .int 0] j := by
  intro j hj
  match j, hj with
  | 0, _ => rfl
  | 1, _ => rfl
  | 2, _ => rfl
  | 3, _ => rfl
  | 4, _ => rfl
  | 5, _ => rfl
  | 6, _ => rfl
  | 7, _ => rfl
  | 8, _ => rfl
  | 9, _ => rfl
theorem dfX1 : ∀ j, j < 10 → defaultValue (tyX1 j) = vp_V [.null, .null, .null, .null, .null, .int 0, .int 0, .int 0, .int 0, .int 0] j := by
  intro j hj
  match j, hj with
  | 0, _ => rfl
  | 1, _ => rfl
  | 2, _ => rfl
  | 3, _ => rfl
  | 4, _ => rfl
  | 5, _ => rfl
  | 6, _ => rfl
  | 7, _ => rfl
  | 8, _ => rfl
  | 9, _ => rfl
set_option maxHeartbeats 4000000 in
set_option maxRecDepth 100000 in
theorem whole_start {p : Program} {e : Env} {s : State} {m : MethodId} {below : List Frame} {meth : Method} {c : Code} (l : Launch) {b L : Nat} {xs : Nat → Int32} (hL : L ≤ 2048) (C0 : lw_At p s m meth c b L xs) : W p l e room_1 s m #[Value.ref b] below meth c s.heap [] 0 0 (lw_Z below #[Value.ref b] s) (entryFrame m ([Value.ref b] : List Value).toArray 4) := by
  obtain ⟨hx, hb, hr, hml, hown, hts, hXs, hbl, hlocks, hgv⟩ := id C0
  have hts : ∀ w ∈ wsL_law, w.before #[Value.ref b] s = true := fun w h => hts w (wsL_law_in w h)
  have hown : s.vm.findClass RL = some m.cls := hown
  have hA : ∀ q : Nat, s.heap.size ≤ q → (fun q : Nat => s.heap.size ≤ q) q := fun _ h => h
  obtain ⟨c0, iS0, hKn0⟩ := u_known (C := RX0) (T := TX0) (N := 10) (n := 10) hts inlX0 (hts (.instantiable RX0 10) (by decide +kernel))
  obtain ⟨c1, iS1, hKn1⟩ := u_known (C := RX1) (T := TX1) (N := 10) (n := 10) hts inlX1 (hts (.instantiable RX1 10) (by decide +kernel))
  obtain ⟨D, hKc⟩ : ∃ D : va_G, ∀ (k : Nat) (q : vw_C), vwCl[k]? = some q → u_Kn s q.1 q.2.1 q.2.2 (D.1 k) (D.2 k) := by
    refine ⟨(fun k => if k = 0 then c0 else c1, fun k => if k = 0 then iS0 else iS1), ?_⟩
    intro k q hq
    match k, hq with
    | 0, hq => cases hq; exact hKn0
    | 1, hq => cases hq; exact hKn1
    | k + 2, hq => simp [vwCl] at hq
  have hS : va_S (fun q : Nat => s.heap.size ≤ q) s.heap s.heap [] := va_S.rf
  have hK : va_K D vwCl [] s := ⟨hKc, fun k q h => by simp at h⟩
  have hP : va_P D vwCl [] s.heap := fun k q h => by simp at h
  have hD : va_D (fun q : Nat => s.heap.size ≤ q) [] := ⟨fun i j p q h => by simp at h, fun k q h => by simp at h⟩
  have hl := lv_entry ([.ref b]) (n := 4) (Nat.le_of_ble_eq_true rfl)
  rw [lg_entry_eq]
  generalize (lg_sl ([.ref b]) ++ List.replicate (4 - (lg_sl ([.ref b])).length) Slot.unset).toArray = ls at hl ⊢
  have hl : lv_has ls 4 [(0, .ref b)] := hl
  refine va_new (ci := 0) (fs := [.null, .null, .null, .null, .null, .int 0, .int 0, .int 0, .int 0, .int 0]) (C := RX0) (T := TX0) (N := 10) hx hb hts inlX0 tyX0 tyX0_ok hown (hts (.classLink RL 7 RX0) (by decide +kernel)) (hts (.instantiable RX0 10) (by decide +kernel)) (hts (.initialized RX0) (by decide +kernel)) hK hP hD hS hA rfl dfX0 (Nat.le_of_ble_eq_true rfl) (Nat.le_of_ble_eq_true rfl) dL_law_0 (fun x0 H hP hD hS => ?_)
  have hP : va_P D vwCl (XW_init0 x0) H := hP
  have hD : va_D (fun q : Nat => s.heap.size ≤ q) (XW_init0 x0) := hD
  refine W.widen (k := 1) (n := 10) (by decide) (by decide) ?_
  refine lv_dup hx hb dL_law_3 rfl ?_
  have hFc := va_free (wc := XW_init0 x0) hD hS hA [0] rfl
  refine va_callv (va_runI (As := []) (rest := [.ref x0]) ⟨hx, hb, hml, hown, hts⟩ (c0_init l D x0 H.size) (cwI 0 hts gL_law_X0_init rfl rfl rfl (hts (.initialized RX0) (by decide +kernel)) (hts (.methodLink RL 9 yX0_init) (by decide +kernel)) (hts (.instanceMethod yX0_init) (by decide +kernel)) rfl (by decide +kernel) ⟨Nat.le_of_ble_eq_true rfl, Nat.le_of_ble_eq_true rfl⟩) ⟨ct_blind, fun U hU hW => ⟨rfl, by rw [hU], by rw [hU]; exact hP, va_K.moved hW.alike hK, hD.weaken (fun _ _ _ _ => trivial)⟩⟩ rfl rfl hl.1 rfl (lv_room (Nat.le_of_ble_eq_true rfl)) dL_law_4 ⟨Nat.le_of_ble_eq_true rfl, Nat.le_of_ble_eq_true rfl⟩) hS (fun q _ h => hFc q h) hFc (fun u t H1 locs ht hvm hw hB hz1 hk1 hS => ?_)
  obtain ⟨x1, x2, x3, x4, x5, r1, r2, r3, r4, r5⟩ := u
  obtain ⟨hP1, hK1, hD1⟩ := hB
  rw [ht] at hP1
  have hK := va_K.moved hvm.symm hK1
  obtain ⟨hP, hD⟩ := va_join (wr := []) hP hD [0] [] rfl rfl (by decide) (by decide) hk1 hFc hP1 hD1
  have hP : va_P D vwCl (XW x0 x1 x2 x3 x4 x5 r1 r2 r3 r4 r5 (fun _ => 0) (fun _ => 0) (fun _ => 0) (fun _ => false) (fun _ => false) true false 0 0 0) H1 := hP
  have hD : va_D (fun q : Nat => s.heap.size ≤ q) (XW x0 x1 x2 x3 x4 x5 r1 r2 r3 r4 r5 (fun _ => 0) (fun _ => 0) (fun _ => 0) (fun _ => false) (fun _ => false) true false 0 0 0) := hD
  refine W.widen (k := 6) (n := 1210) (by decide) (by decide) ?_
  clear hFc hk1 hz1 hP1 hD1 hK1
  refine lv_astore_n (lv' := [(1, .ref x0), (0, .ref b)]) hx hb dL_law_7 rfl hl (by decide) rfl (fun ls hl => ?_)
  refine va_new (ci := 1) (fs := [.null, .null, .null, .null, .null, .int 0, .int 0, .int 0, .int 0, .int 0]) (C := RX1) (T := TX1) (N := 10) hx hb hts inlX1 tyX1 tyX1_ok hown (hts (.classLink RL 10 RX1) (by decide +kernel)) (hts (.instantiable RX1 10) (by decide +kernel)) (hts (.initialized RX1) (by decide +kernel)) hK hP hD hS hA rfl dfX1 (Nat.le_of_ble_eq_true rfl) (Nat.le_of_ble_eq_true rfl) dL_law_8 (fun z0 H hP hD hS => ?_)
  refine W.widen (k := 7) (n := 1220) (by decide) (by decide) ?_
  refine lv_dup hx hb dL_law_11 rfl ?_
  have hPc := hP.sub (ws' := MW_init0 z0) [6] rfl
  have hDc := hD.sub (ws' := MW_init0 z0) [6] (by decide) rfl
  have hKc := hK.sub (tys' := []) [] rfl
  have hFc := va_free (wc := MW_init0 z0) hD hS hA [6] rfl
  refine va_callv (va_runI (As := []) (rest := [.ref z0]) ⟨hx, hb, hml, hown, hts⟩ (c1_init l D z0 H.size) (cwI 0 hts gL_law_X1_init rfl rfl rfl (hts (.initialized RX1) (by decide +kernel)) (hts (.methodLink RL 12 yX1_init) (by decide +kernel)) (hts (.instanceMethod yX1_init) (by decide +kernel)) rfl (by decide +kernel) ⟨Nat.le_of_ble_eq_true rfl, Nat.le_of_ble_eq_true rfl⟩) ⟨ct_blind, fun U hU hW => ⟨rfl, by rw [hU], by rw [hU]; exact hPc, va_K.moved hW.alike hKc, hDc.weaken (fun _ _ _ _ => trivial)⟩⟩ rfl rfl hl.1 rfl (lv_room (Nat.le_of_ble_eq_true rfl)) dL_law_12 ⟨Nat.le_of_ble_eq_true rfl, Nat.le_of_ble_eq_true rfl⟩) hS (fun q _ h => hFc q h) hFc (fun u t H2 locs ht hvm hw hB hz1 hk1 hS => ?_)
  obtain ⟨z1, z2, z3, z4, z5, t1, t2, t3, t4, t5⟩ := u
  obtain ⟨hP1, hK1, hD1⟩ := hB
  rw [ht] at hP1
  have hK1 := va_K.moved hvm.symm hK1
  obtain ⟨hP, hD⟩ := va_join (wr := XW x0 x1 x2 x3 x4 x5 r1 r2 r3 r4 r5 (fun _ => 0) (fun _ => 0) (fun _ => 0) (fun _ => false) (fun _ => false) true false 0 0 0) hP hD [6] [0, 1, 2, 3, 4, 5] rfl rfl (by decide) (by decide) hk1 hFc hP1 hD1
  have hK := hK.app hK1
  have hK : va_K D vwCl (LT r1 r2 r3 r4 r5 t1 t2 t3 t4 t5) s := hK
  have hP : va_P D vwCl (LW x0 x1 x2 x3 x4 x5 r1 r2 r3 r4 r5 z0 z1 z2 z3 z4 z5 t1 t2 t3 t4 t5 (fun _ => 0) (fun _ => 0) (fun _ => 0) (fun _ => false) (fun _ => false) true false 0 (some 0) 0 (fun _ => 0) (fun _ => 0) (fun _ => 0) (fun _ => false) (fun _ => false)) H2 := hP
  have hD : va_D (fun q : Nat => s.heap.size ≤ q) (LW x0 x1 x2 x3 x4 x5 r1 r2 r3 r4 r5 z0 z1 z2 z3 z4 z5 t1 t2 t3 t4 t5 (fun _ => 0) (fun _ => 0) (fun _ => 0) (fun _ => false) (fun _ => false) true false 0 (some 0) 0 (fun _ => 0) (fun _ => 0) (fun _ => 0) (fun _ => false) (fun _ => false)) := hD
  refine W.widen (k := 12) (n := 2420) (by decide) (by decide) ?_
  refine lv_astore_n (lv' := [(2, .ref z0), (1, .ref x0), (0, .ref b)]) hx hb dL_law_15 rfl hl (by decide) rfl (fun ls hl => ?_)
  refine lv_iconst (v := 0) hx hb dL_law_16 (by decide) ?_
  refine lv_istore_n (lv' := [(3, .int (nI 0)), (2, .ref z0), (1, .ref x0), (0, .ref b)]) hx hb dL_law_17 rfl hl (by decide) rfl (fun ls hl => ?_)
  exact law_loop C0 hL (L + 1) 0 (by omega) (by omega) _ _ _ _ _ _ _ _ _ _ _ _ _ _ _ rel0 H2 _ ls hK hP hD hS hl
end
section
set_option maxHeartbeats 4000000 in
theorem lw_walk (l : Launch) (b : Addr) (xs : List Int32) : MetFree l x (headSpec (Jvm.Cond.code x code maxLocals ret :: tables_1) room_1) (lw_P b xs) (fun _ _ _ _ _ => True) lw_Q := by
  refine MetFree.of_bodyS (code := code) (maxLocals := maxLocals) (ret := ret) (by decide) ?_ ?_
  · intro args s m h hn
    obtain ⟨meth, c, h1, h2, h3, h4, h5, h6, -, -⟩ := Cond.code_spec hn (atoms_spec (ws := Jvm.Cond.code x code maxLocals ret :: tables_1) h _ List.mem_cons_self)
    exact ⟨meth, c, h1, h2, h3, h4, h5, h6⟩
  · intro p e s m args below meth c s₁ B hml0 hP _
    obtain ⟨rfl, hx, hbd, hgv⟩ := hP
    obtain ⟨scr, harrAt, hlist, hof, hsmall⟩ := hx
    obtain ⟨hcb, hkn, -, -⟩ := State.arrayAt?_spec harrAt
    have hown : s.vm.findClass R_law = some m.cls := findClass_of_methodNamed B.named
    have hts0 : ∀ c ∈ (Jvm.Cond.code x code maxLocals ret :: tables_1), c.before #[Value.ref b] s = true := atoms_spec (ws := Jvm.Cond.code x code maxLocals ret :: tables_1) B.pre
    have hts : ∀ w ∈ lw_tbl, w.before #[Value.ref b] s = true := k2_hts_sels lw_privs (fun w hw => hts0 w (List.mem_cons_of_mem _ hw)) lw_privs_ok
    have hml : c.maxLocals = 4 := B.maxLocals_eq (hts0 _ List.mem_cons_self)
    have X₀ : Stand p l e room_1 s m #[Value.ref b] below meth c s₁ [] 0 0 := Stand.of_body B
    have hh0 : s₁.heap = s.heap := by rw [B.state]; rfl
    have hsz : scr.slots.size = xs.length := by rw [← Array.length_toList, hlist, List.length_map]
    have hval : ∀ j : Nat, j < xs.length → scr.slots[j]? = some (.int (xs.getD j 0)) := fun j hj => by
      rw [← Array.getElem?_toList, hlist]
      simp [hj]
    have hbl : b < s.heap.size := (Array.getElem?_eq_some_iff.mp hcb).1
    have hX : va_X b xs.length (fun j => xs.getD j 0) s s.heap := ⟨scr, hcb, hof, hkn, hsz, hval⟩
    have K : W p l e room_1 s m #[Value.ref b] below meth c s₁.heap [] 0 0 (lw_Z below #[Value.ref b] s) (entryFrame m ([Value.ref b] : List Value).toArray 4) := by
      rw [hh0]
      exact whole_start l hbd ⟨B.exec, B.bytes, B.returns, hml, hown, hts, hX, hbl, B.notSynchronized, hgv⟩
    obtain ⟨t, a1, o, b1, b2, b3⟩ := K s₁ rfl X₀
    exact ⟨t, o, a1, b1, b2, b3⟩
theorem lw_pre_spec {args : Array Value} {s : State} (h : (Jvm.Cond.and given_1 narrow_1).before args s = true) (hr : rest_1_c.before args s = true) : ∃ (b : Addr) (xs : List Int32), lw_P b xs args s := by
  have hs := flat_of_before _ h
  have hq := flat_of_before _ hr
  have hc : (Cond.count 1).before args s = true := hs _ (by decide +kernel)
  have harr : (Cond.arrayOf (.arg 0) .int).before args s = true := hs _ (by decide +kernel)
  have hle : (Cond.le (.length (.arg 0)) (.int 2048)).before args s = true := hs _ (by decide +kernel)
  have hlen : (Cond.isInt (.length (.arg 0))).before args s = true := hq _ (by decide +kernel)
  have hall : (Cond.all (.arg 0) (.isInt (.elem (.arg 0) (.index 0)))).before args s = true := hq _ (by decide +kernel)
  obtain ⟨b, xs, hb, hx⟩ := State.ints_of_pre rfl harr hlen hall
  have hsm : xs.length < 2 ^ 31 := hx.choose_spec.2.2.2
  have hev : (Term.length (.arg 0)).eval args s none [] s = some (.int xs.length.toInt32) := hx.length_eval hb
  have hv := Cond.le_ints hev (show (Term.int 2048).eval args s none [] s = some (.int 2048) from rfl)
  have hd : xs.length.toInt32 ≤ 2048 := by
    simpa [Cond.before, Cond.holds, hv] using hle
  have hN : xs.length ≤ 2048 := (Int32.ofNat_le_ofNat hsm (by decide)).mp (show Int32.ofNat xs.length ≤ Int32.ofNat 2048 from hd)
  exact ⟨b, xs, Cond.one_arg hc (show args[0]? = some (.ref b) from hb), hx, hN, h⟩
theorem lw_comes (l : Launch) : Comes l x (Jvm.Cond.code x code maxLocals ret :: tables_1) room_1 (fun tb e args s => Calls_1 tb e args s ∧ rest_1 tb e args s ∧ Pre_1 tb e args s)
    (fun _ _ args s o t => lw_Q args s o t) := by
  intro p e ha hc hk s m args below hf hfit hheap happ hpre
  obtain ⟨b, xs, hP⟩ := lw_pre_spec hpre.2.2 hpre.2.1
  obtain ⟨k, o, h1, h2, h3, hQ⟩ := lw_walk l b xs p e ha hc hk s m args below hf ((Spec.applies_iff_loose hf).mp happ).1 hP trivial
  exact ⟨k, o, h1, h2, h3, hQ⟩
theorem lw_frame {s t : State} {o : Outcome} {args : Array Value} (h : Framed s o t [] 12 2420) :
    Framed s o t (fieldLocs frame_1_writes args s ++ arrayLocs frame_1_arrays args s ++ staticLocs frame_1_statics s) 12 2420 := h
theorem lw_limb (L : Cond) (hL : ∀ (args : Array Value) (s t : State), L.after args s (.returned (some (.int 1))) t = true) :
    ArmFor flags0 classFile x code maxLocals ret World_1 tables_1 room_1 Calls_1 rest_1 Pre_1
      (fun tb e a s o t => postC L tb e a s o t ∧ Framed s o t (fieldLocs frame_1_writes a s ++ arrayLocs frame_1_arrays a s ++ staticLocs frame_1_statics s) 12 2420) := by
  intro l _ _ _ p e ha hc hk s m args below hf hfit hheap happ hpre
  obtain ⟨k, o, h1, h2, h3, rfl, hF⟩ := lw_comes l p e ha hc hk s m args below hf hfit hheap happ hpre
  exact ⟨k, _, h1, h2, h3, hL args s _, lw_frame hF⟩
theorem i_vc : Claimed_1_1 ∧ Claimed_1_2 := ⟨lw_limb limb_1_1 (fun args s t => by simp [limb_1_1, Cond.after, Cond.holds, Cond.value]), lw_limb limb_1_2 (fun args s t => Cond.after_iff.mpr (by
  first | (rw [show limb_1_2 = Cond.eq .result (.int 1) from rfl, Cond.eq_ints (x := 1) (y := 1) rfl rfl]; simp; done) | (simp [limb_1_2, Cond.value, Term.eval]; done)))⟩
end
