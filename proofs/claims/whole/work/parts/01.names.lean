-- ===== PART A: goes FIRST, ahead of the names: the tables' words, and 'selects' of the private methods out of them =====
/-- a private method of a class that the tables say can be made, by its rows of tables_1 -/
def lw_okq (q : MethodName × Nat) : Prop := (q.1.cls ≠ "java/lang/invoke/MethodHandle" ∧ q.1.cls ≠ "java/lang/invoke/VarHandle") ∧ Cond.instantiable q.1.cls q.2 ∈ tables_1 ∧ Cond.privateMethod q.1 ∈ tables_1 ∧ Cond.instanceMethod q.1 ∈ tables_1
theorem lw_p0 : lw_okq (⟨"CommitLog", "takeShareOfThisCommit", "()I"⟩, 10) := ⟨⟨by decide +kernel, by decide +kernel⟩, List.mem_of_getElem? (i := 5) (by decide +kernel), List.mem_of_getElem? (i := 72) (by decide +kernel), List.mem_of_getElem? (i := 73) (by decide +kernel)⟩
theorem lw_p1 : lw_okq (⟨"CommitLog", "countWritten", "()I"⟩, 10) := ⟨⟨by decide +kernel, by decide +kernel⟩, List.mem_of_getElem? (i := 5) (by decide +kernel), List.mem_of_getElem? (i := 76) (by decide +kernel), List.mem_of_getElem? (i := 77) (by decide +kernel)⟩
theorem lw_p2 : lw_okq (⟨"CommitLog", "bringToLog", "(I)V"⟩, 10) := ⟨⟨by decide +kernel, by decide +kernel⟩, List.mem_of_getElem? (i := 5) (by decide +kernel), List.mem_of_getElem? (i := 80) (by decide +kernel), List.mem_of_getElem? (i := 81) (by decide +kernel)⟩
theorem lw_p3 : lw_okq (⟨"CommitLog", "clearWritten", "()V"⟩, 10) := ⟨⟨by decide +kernel, by decide +kernel⟩, List.mem_of_getElem? (i := 5) (by decide +kernel), List.mem_of_getElem? (i := 90) (by decide +kernel), List.mem_of_getElem? (i := 91) (by decide +kernel)⟩
theorem lw_p4 : lw_okq (⟨"CommitLog", "bringLogToDisk", "(I)V"⟩, 10) := ⟨⟨by decide +kernel, by decide +kernel⟩, List.mem_of_getElem? (i := 5) (by decide +kernel), List.mem_of_getElem? (i := 94) (by decide +kernel), List.mem_of_getElem? (i := 95) (by decide +kernel)⟩
theorem lw_p5 : lw_okq (⟨"CommitLog", "takeWorkFromDisk", "()V"⟩, 10) := ⟨⟨by decide +kernel, by decide +kernel⟩, List.mem_of_getElem? (i := 5) (by decide +kernel), List.mem_of_getElem? (i := 102) (by decide +kernel), List.mem_of_getElem? (i := 103) (by decide +kernel)⟩
theorem lw_p6 : lw_okq (⟨"CommitLogModel", "many", "()I"⟩, 10) := ⟨⟨by decide +kernel, by decide +kernel⟩, List.mem_of_getElem? (i := 118) (by decide +kernel), List.mem_of_getElem? (i := 182) (by decide +kernel), List.mem_of_getElem? (i := 183) (by decide +kernel)⟩
theorem lw_p7 : lw_okq (⟨"CommitLogModel", "note", "()V"⟩, 10) := ⟨⟨by decide +kernel, by decide +kernel⟩, List.mem_of_getElem? (i := 118) (by decide +kernel), List.mem_of_getElem? (i := 186) (by decide +kernel), List.mem_of_getElem? (i := 187) (by decide +kernel)⟩
theorem lw_p8 : lw_okq (⟨"CommitLogModel", "lay", "(I)V"⟩, 10) := ⟨⟨by decide +kernel, by decide +kernel⟩, List.mem_of_getElem? (i := 118) (by decide +kernel), List.mem_of_getElem? (i := 193) (by decide +kernel), List.mem_of_getElem? (i := 194) (by decide +kernel)⟩
theorem lw_p9 : lw_okq (⟨"CommitLogModel", "fresh", "()V"⟩, 10) := ⟨⟨by decide +kernel, by decide +kernel⟩, List.mem_of_getElem? (i := 118) (by decide +kernel), List.mem_of_getElem? (i := 201) (by decide +kernel), List.mem_of_getElem? (i := 202) (by decide +kernel)⟩
theorem lw_p10 : lw_okq (⟨"CommitLogModel", "loggedMany", "()I"⟩, 10) := ⟨⟨by decide +kernel, by decide +kernel⟩, List.mem_of_getElem? (i := 118) (by decide +kernel), List.mem_of_getElem? (i := 213) (by decide +kernel), List.mem_of_getElem? (i := 214) (by decide +kernel)⟩
def lw_privs_1 : List (MethodName × Nat) := [(⟨"CommitLog", "takeShareOfThisCommit", "()I"⟩, 10), (⟨"CommitLog", "countWritten", "()I"⟩, 10), (⟨"CommitLog", "bringToLog", "(I)V"⟩, 10), (⟨"CommitLog", "clearWritten", "()V"⟩, 10), (⟨"CommitLog", "bringLogToDisk", "(I)V"⟩, 10), (⟨"CommitLog", "takeWorkFromDisk", "()V"⟩, 10), (⟨"CommitLogModel", "many", "()I"⟩, 10), (⟨"CommitLogModel", "note", "()V"⟩, 10), (⟨"CommitLogModel", "lay", "(I)V"⟩, 10), (⟨"CommitLogModel", "fresh", "()V"⟩, 10), (⟨"CommitLogModel", "loggedMany", "()I"⟩, 10)]
theorem lw_r1 : ∀ q ∈ lw_privs_1, lw_okq q := List.forall_mem_cons.mpr ⟨lw_p0, List.forall_mem_cons.mpr ⟨lw_p1, List.forall_mem_cons.mpr ⟨lw_p2, List.forall_mem_cons.mpr ⟨lw_p3, List.forall_mem_cons.mpr ⟨lw_p4, List.forall_mem_cons.mpr ⟨lw_p5, List.forall_mem_cons.mpr ⟨lw_p6, List.forall_mem_cons.mpr ⟨lw_p7, List.forall_mem_cons.mpr ⟨lw_p8, List.forall_mem_cons.mpr ⟨lw_p9, List.forall_mem_cons.mpr ⟨lw_p10, fun _ h => absurd h List.not_mem_nil⟩⟩⟩⟩⟩⟩⟩⟩⟩⟩⟩
def lw_privs : List (MethodName × Nat) := lw_privs_1
def lw_tbl : List Cond := k2_sels lw_privs ++ tables_1
theorem lw_privs_ok : ∀ q ∈ lw_privs, lw_okq q := lw_r1
-- ===== end of PART A; then your names; then what follows =====
/-! ===== BEGIN words of one list among another's, by their places ===== -/
theorem goodIn_r {big : List Cond} (ws : List Cond) (ps : List Nat) (hp : ws = ps.filterMap (fun i => big[i]?)) (h : ws.all goodWord = true) : GoodIn big ws := by
  intro w hw
  have h1 := List.all_eq_true.mp h w hw
  rw [hp] at hw
  obtain ⟨i, -, hi⟩ := List.mem_filterMap.mp hw
  have hm : w ∈ big := by first | exact List.mem_of_getElem? hi | exact List.getElem?_mem hi
  exact ⟨hm, good_of_word h1⟩
theorem goodIn_app {big a b : List Cond} (ha : GoodIn big a) (hb : GoodIn big b) : GoodIn big (a ++ b) := fun w h => (List.mem_append.mp h).elim (ha w) (hb w)
theorem goodIn_ca {big a b : List Cond} {c : Cond} (ha : GoodIn big (c :: a)) (hb : GoodIn big b) : GoodIn big (c :: (a ++ b)) := fun w h => (List.mem_cons.mp h).elim (fun e => ha w (List.mem_cons.mpr (Or.inl e))) (fun h => (List.mem_append.mp h).elim (fun h => ha w (List.mem_cons.mpr (Or.inr h))) (hb w))
theorem goodIn_sub {big ws : List Cond} (hm : ∀ w ∈ ws, w ∈ big) (h : ws.all goodWord = true) : GoodIn big ws := fun w hw => ⟨hm w hw, good_of_word (List.all_eq_true.mp h w hw)⟩
/-! ===== END ===== -/

/-! ===== BEGIN printed: names, fields, word lists, decode rows ===== -/
def RX0 : String := "CommitLog"
def TX0 : u_T := fun k => match k with
  | 0 => ("CommitLog", "work", "[I", true)
  | 1 => ("CommitLog", "onDisk", "[I", true)
  | 2 => ("CommitLog", "logBytes", "[I", true)
  | 3 => ("CommitLog", "written", "[Z", true)
  | 4 => ("CommitLog", "logged", "[Z", true)
  | 5 => ("CommitLog", "powered", "Z", false)
  | 6 => ("CommitLog", "marked", "Z", false)
  | 7 => ("CommitLog", "latestCount", "I", false)
  | 8 => ("CommitLog", "commitsUntilCut", "I", false)
  | _ => ("CommitLog", "cutShare", "I", false)
def tyX0 : Nat → FieldType := fun k => match k with
  | 0 => .array .int
  | 1 => .array .int
  | 2 => .array .int
  | 3 => .array .boolean
  | 4 => .array .boolean
  | 5 => .boolean
  | 6 => .boolean
  | 7 => .int
  | 8 => .int
  | _ => .int
abbrev wsX00 : List Cond := u_ws RX0 TX0 10
theorem nmX0 : ∀ a, a < 10 → ∀ b, b < 10 → a ≠ b → (TX0 a).2.1 ≠ (TX0 b).2.1 := by decide +kernel
theorem tyX0_ok : ∀ k, k < 10 → parseFieldDescriptor (TX0 k).2.2.1 = some (tyX0 k) := by decide +kernel
abbrev cX0_init : ByteArray := prog_1_method_1_code
def yX0_init : MethodName := ⟨RX0, "<init>", "()V"⟩
abbrev cX0_write : ByteArray := prog_1_method_2_code
def yX0_write : MethodName := ⟨RX0, "write", "(III)Z"⟩
abbrev cX0_read : ByteArray := prog_1_method_3_code
def yX0_read : MethodName := ⟨RX0, "read", "(II)I"⟩
abbrev cX0_disk : ByteArray := prog_1_method_4_code
def yX0_disk : MethodName := ⟨RX0, "disk", "(II)I"⟩
abbrev cX0_dirty : ByteArray := prog_1_method_5_code
def yX0_dirty : MethodName := ⟨RX0, "dirty", "(I)Z"⟩
abbrev cX0_commit : ByteArray := prog_1_method_6_code
def yX0_commit : MethodName := ⟨RX0, "commit", "()Z"⟩
abbrev cX0_revert : ByteArray := prog_1_method_7_code
def yX0_revert : MethodName := ⟨RX0, "revert", "()Z"⟩
abbrev cX0_cut : ByteArray := prog_1_method_8_code
def yX0_cut : MethodName := ⟨RX0, "cut", "(II)Z"⟩
abbrev cX0_start : ByteArray := prog_1_method_9_code
def yX0_start : MethodName := ⟨RX0, "start", "(I)Z"⟩
abbrev cX0_state : ByteArray := prog_1_method_10_code
def yX0_state : MethodName := ⟨RX0, "state", "(I)I"⟩
abbrev cX0_isBlock : ByteArray := prog_1_method_11_code
def yX0_isBlock : MethodName := ⟨RX0, "isBlock", "(I)Z"⟩
abbrev cX0_isPlace : ByteArray := prog_1_method_12_code
def yX0_isPlace : MethodName := ⟨RX0, "isPlace", "(I)Z"⟩
abbrev cX0_takeShareOfThisCommit : ByteArray := prog_1_method_13_code
def yX0_takeShareOfThisCommit : MethodName := ⟨RX0, "takeShareOfThisCommit", "()I"⟩
abbrev cX0_countWritten : ByteArray := prog_1_method_14_code
def yX0_countWritten : MethodName := ⟨RX0, "countWritten", "()I"⟩
abbrev cX0_bringToLog : ByteArray := prog_1_method_15_code
def yX0_bringToLog : MethodName := ⟨RX0, "bringToLog", "(I)V"⟩
abbrev cX0_bringLogToDisk : ByteArray := prog_1_method_16_code
def yX0_bringLogToDisk : MethodName := ⟨RX0, "bringLogToDisk", "(I)V"⟩
abbrev cX0_takeWorkFromDisk : ByteArray := prog_1_method_17_code
def yX0_takeWorkFromDisk : MethodName := ⟨RX0, "takeWorkFromDisk", "()V"⟩
abbrev cX0_clearWritten : ByteArray := prog_1_method_18_code
def yX0_clearWritten : MethodName := ⟨RX0, "clearWritten", "()V"⟩
abbrev cX0_copyBlock : ByteArray := prog_1_method_19_code
def yX0_copyBlock : MethodName := ⟨RX0, "copyBlock", "([I[II)V"⟩
def RX1 : String := "CommitLogModel"
def TX1 : u_T := fun k => match k with
  | 0 => ("CommitLogModel", "work", "[B", true)
  | 1 => ("CommitLogModel", "disk", "[B", true)
  | 2 => ("CommitLogModel", "log", "[B", true)
  | 3 => ("CommitLogModel", "dirty", "[Z", true)
  | 4 => ("CommitLogModel", "logged", "[Z", true)
  | 5 => ("CommitLogModel", "off", "Z", false)
  | 6 => ("CommitLogModel", "mark", "Z", false)
  | 7 => ("CommitLogModel", "latest", "I", false)
  | 8 => ("CommitLogModel", "left", "I", false)
  | _ => ("CommitLogModel", "share", "I", false)
def tyX1 : Nat → FieldType := fun k => match k with
  | 0 => .array .byte
  | 1 => .array .byte
  | 2 => .array .byte
  | 3 => .array .boolean
  | 4 => .array .boolean
  | 5 => .boolean
  | 6 => .boolean
  | 7 => .int
  | 8 => .int
  | _ => .int
abbrev wsX10 : List Cond := u_ws RX1 TX1 10
theorem nmX1 : ∀ a, a < 10 → ∀ b, b < 10 → a ≠ b → (TX1 a).2.1 ≠ (TX1 b).2.1 := by decide +kernel
theorem tyX1_ok : ∀ k, k < 10 → parseFieldDescriptor (TX1 k).2.2.1 = some (tyX1 k) := by decide +kernel
abbrev cX1_init : ByteArray := prog_3_method_1_code
def yX1_init : MethodName := ⟨RX1, "<init>", "()V"⟩
abbrev cX1_in : ByteArray := prog_3_method_2_code
def yX1_in : MethodName := ⟨RX1, "in", "(III)Z"⟩
abbrev cX1_isPlace : ByteArray := prog_3_method_3_code
def yX1_isPlace : MethodName := ⟨RX1, "isPlace", "(II)Z"⟩
abbrev cX1_write : ByteArray := prog_3_method_4_code
def yX1_write : MethodName := ⟨RX1, "write", "(III)Z"⟩
abbrev cX1_read : ByteArray := prog_3_method_5_code
def yX1_read : MethodName := ⟨RX1, "read", "(II)I"⟩
abbrev cX1_disk : ByteArray := prog_3_method_6_code
def yX1_disk : MethodName := ⟨RX1, "disk", "(II)I"⟩
abbrev cX1_dirty : ByteArray := prog_3_method_7_code
def yX1_dirty : MethodName := ⟨RX1, "dirty", "(I)Z"⟩
abbrev cX1_copy : ByteArray := prog_3_method_8_code
def yX1_copy : MethodName := ⟨RX1, "copy", "([B[BI)V"⟩
abbrev cX1_many : ByteArray := prog_3_method_9_code
def yX1_many : MethodName := ⟨RX1, "many", "()I"⟩
abbrev cX1_note : ByteArray := prog_3_method_10_code
def yX1_note : MethodName := ⟨RX1, "note", "()V"⟩
abbrev cX1_lay : ByteArray := prog_3_method_11_code
def yX1_lay : MethodName := ⟨RX1, "lay", "(I)V"⟩
abbrev cX1_fresh : ByteArray := prog_3_method_12_code
def yX1_fresh : MethodName := ⟨RX1, "fresh", "()V"⟩
abbrev cX1_commit : ByteArray := prog_3_method_13_code
def yX1_commit : MethodName := ⟨RX1, "commit", "()Z"⟩
abbrev cX1_revert : ByteArray := prog_3_method_14_code
def yX1_revert : MethodName := ⟨RX1, "revert", "()Z"⟩
abbrev cX1_cut : ByteArray := prog_3_method_15_code
def yX1_cut : MethodName := ⟨RX1, "cut", "(II)Z"⟩
abbrev cX1_loggedMany : ByteArray := prog_3_method_16_code
def yX1_loggedMany : MethodName := ⟨RX1, "loggedMany", "()I"⟩
abbrev cX1_start : ByteArray := prog_3_method_17_code
def yX1_start : MethodName := ⟨RX1, "start", "(I)Z"⟩
abbrev cX1_state : ByteArray := prog_3_method_18_code
def yX1_state : MethodName := ⟨RX1, "state", "(I)I"⟩
def RJ10 : String := "java/lang/System"
def TJ10 : u_T := fun k => match k with
  | _ => ("", "", "", false)
def tyJ10 : Nat → FieldType := fun k => match k with
  | _ => .int
abbrev wsJ100 : List Cond := u_ws RJ10 TJ10 0
theorem nmJ10 : ∀ a, a < 0 → ∀ b, b < 0 → a ≠ b → (TJ10 a).2.1 ≠ (TJ10 b).2.1 := by decide +kernel
theorem tyJ10_ok : ∀ k, k < 0 → parseFieldDescriptor (TJ10 k).2.2.1 = some (tyJ10 k) := by decide +kernel
def RL : String := "CommitLogLaw"
abbrev cL_law : ByteArray := code
def yL_law : MethodName := ⟨RL, "law", "([I)Z"⟩
def wsX0_init : List Cond := .code yX0_init cX0_init 1 none :: ([.methodLink RX0 3 objectInit, .instanceMethod objectInit, .code objectInit ⟨#[0xb1]⟩ 1 none, .arrayClass .int, .fieldLink RX0 9 "CommitLog" "work" "[I", .fieldLink RX0 13 "CommitLog" "onDisk" "[I", .fieldLink RX0 16 "CommitLog" "logBytes" "[I", .arrayClass .boolean, .fieldLink RX0 19 "CommitLog" "written" "[Z", .fieldLink RX0 23 "CommitLog" "logged" "[Z", .fieldLink RX0 26 "CommitLog" "powered" "Z", .fieldLink RX0 30 "CommitLog" "marked" "Z", .fieldLink RX0 33 "CommitLog" "latestCount" "I", .fieldLink RX0 37 "CommitLog" "commitsUntilCut" "I", .fieldLink RX0 40 "CommitLog" "cutShare" "I"] ++ wsX00)
def wsX0_isBlock : List Cond := .code yX0_isBlock cX0_isBlock 1 (some .boolean) :: ([])
def wsX0_isPlace : List Cond := .code yX0_isPlace cX0_isPlace 1 (some .boolean) :: ([])
def wsX0_write : List Cond := .code yX0_write cX0_write 4 (some .boolean) :: ([.fieldLink RX0 26 "CommitLog" "powered" "Z", .fieldLink RX0 9 "CommitLog" "work" "[I", .fieldLink RX0 19 "CommitLog" "written" "[Z", .methodLink RX0 43 yX0_isBlock, .static yX0_isBlock, .initialized RX0, .code yX0_isBlock cX0_isBlock 1 (some .boolean), .methodLink RX0 47 yX0_isPlace, .static yX0_isPlace, .code yX0_isPlace cX0_isPlace 1 (some .boolean)] ++ wsX00)
def wsX0_read : List Cond := .code yX0_read cX0_read 3 (some .int) :: ([.fieldLink RX0 26 "CommitLog" "powered" "Z", .fieldLink RX0 9 "CommitLog" "work" "[I", .methodLink RX0 43 yX0_isBlock, .static yX0_isBlock, .initialized RX0, .code yX0_isBlock cX0_isBlock 1 (some .boolean), .methodLink RX0 47 yX0_isPlace, .static yX0_isPlace, .code yX0_isPlace cX0_isPlace 1 (some .boolean)] ++ wsX00)
def wsX0_disk : List Cond := .code yX0_disk cX0_disk 3 (some .int) :: ([.fieldLink RX0 13 "CommitLog" "onDisk" "[I", .methodLink RX0 43 yX0_isBlock, .static yX0_isBlock, .initialized RX0, .code yX0_isBlock cX0_isBlock 1 (some .boolean), .methodLink RX0 47 yX0_isPlace, .static yX0_isPlace, .code yX0_isPlace cX0_isPlace 1 (some .boolean)] ++ wsX00)
def wsX0_dirty : List Cond := .code yX0_dirty cX0_dirty 2 (some .boolean) :: ([.fieldLink RX0 26 "CommitLog" "powered" "Z", .fieldLink RX0 19 "CommitLog" "written" "[Z", .methodLink RX0 43 yX0_isBlock, .static yX0_isBlock, .initialized RX0, .code yX0_isBlock cX0_isBlock 1 (some .boolean)] ++ wsX00)
def wsX0_takeShareOfThisCommit : List Cond := .code yX0_takeShareOfThisCommit cX0_takeShareOfThisCommit 1 (some .int) :: ([.fieldLink RX0 37 "CommitLog" "commitsUntilCut" "I", .fieldLink RX0 40 "CommitLog" "cutShare" "I"] ++ wsX00)
def wsX0_countWritten : List Cond := .code yX0_countWritten cX0_countWritten 3 (some .int) :: ([.fieldLink RX0 19 "CommitLog" "written" "[Z"] ++ wsX00)
def wsX0_copyBlock : List Cond := .code yX0_copyBlock cX0_copyBlock 3 none :: ([.methodLink RX0 74 arraycopyName, .native arraycopyName, .static arraycopyName, .initialized "java/lang/System"])
def wsX0_bringToLog : List Cond := .code yX0_bringToLog cX0_bringToLog 4 none :: ([.fieldLink RX0 23 "CommitLog" "logged" "[Z", .fieldLink RX0 19 "CommitLog" "written" "[Z", .fieldLink RX0 9 "CommitLog" "work" "[I", .fieldLink RX0 16 "CommitLog" "logBytes" "[I", .methodLink RX0 70 yX0_copyBlock, .static yX0_copyBlock, .initialized RX0, .code yX0_copyBlock cX0_copyBlock 3 none, .methodLink RX0 74 arraycopyName, .native arraycopyName, .static arraycopyName, .initialized "java/lang/System"] ++ wsX00)
def wsX0_clearWritten : List Cond := .code yX0_clearWritten cX0_clearWritten 2 none :: ([.fieldLink RX0 19 "CommitLog" "written" "[Z"] ++ wsX00)
def wsX0_bringLogToDisk : List Cond := .code yX0_bringLogToDisk cX0_bringLogToDisk 4 none :: ([.fieldLink RX0 23 "CommitLog" "logged" "[Z", .fieldLink RX0 16 "CommitLog" "logBytes" "[I", .fieldLink RX0 13 "CommitLog" "onDisk" "[I", .methodLink RX0 70 yX0_copyBlock, .static yX0_copyBlock, .initialized RX0, .code yX0_copyBlock cX0_copyBlock 3 none, .methodLink RX0 74 arraycopyName, .native arraycopyName, .static arraycopyName, .initialized "java/lang/System"] ++ wsX00)
def wsX0_commit_r1 : List Cond := [Cond.fieldLink RX0 26 "CommitLog" "powered" "Z", Cond.fieldLink RX0 33 "CommitLog" "latestCount" "I", Cond.fieldLink RX0 30 "CommitLog" "marked" "Z", Cond.methodLink RX0 50 yX0_takeShareOfThisCommit, Cond.instanceMethod yX0_takeShareOfThisCommit, Cond.selects RX0 yX0_takeShareOfThisCommit yX0_takeShareOfThisCommit, Cond.initialized RX0, Cond.code yX0_takeShareOfThisCommit cX0_takeShareOfThisCommit 1 (some .int), Cond.fieldLink RX0 37 "CommitLog" "commitsUntilCut" "I", Cond.fieldLink RX0 40 "CommitLog" "cutShare" "I", Cond.methodLink RX0 54 yX0_countWritten, Cond.instanceMethod yX0_countWritten, Cond.selects RX0 yX0_countWritten yX0_countWritten, Cond.code yX0_countWritten cX0_countWritten 3 (some .int), Cond.fieldLink RX0 19 "CommitLog" "written" "[Z", Cond.methodLink RX0 57 yX0_bringToLog, Cond.instanceMethod yX0_bringToLog, Cond.selects RX0 yX0_bringToLog yX0_bringToLog, Cond.code yX0_bringToLog cX0_bringToLog 4 none, Cond.fieldLink RX0 23 "CommitLog" "logged" "[Z", Cond.fieldLink RX0 9 "CommitLog" "work" "[I", Cond.fieldLink RX0 16 "CommitLog" "logBytes" "[I", Cond.methodLink RX0 70 yX0_copyBlock, Cond.static yX0_copyBlock]
def wsX0_commit_r2 : List Cond := [Cond.code yX0_copyBlock cX0_copyBlock 3 none, Cond.methodLink RX0 74 arraycopyName, Cond.native arraycopyName, Cond.static arraycopyName, Cond.initialized "java/lang/System", Cond.methodLink RX0 61 yX0_clearWritten, Cond.instanceMethod yX0_clearWritten, Cond.selects RX0 yX0_clearWritten yX0_clearWritten, Cond.code yX0_clearWritten cX0_clearWritten 2 none, Cond.methodLink RX0 64 yX0_bringLogToDisk, Cond.instanceMethod yX0_bringLogToDisk, Cond.selects RX0 yX0_bringLogToDisk yX0_bringLogToDisk, Cond.code yX0_bringLogToDisk cX0_bringLogToDisk 4 none, Cond.fieldLink RX0 13 "CommitLog" "onDisk" "[I"]
def wsX0_commit : List Cond := .code yX0_commit cX0_commit 2 (some .boolean) :: ((wsX0_commit_r1 ++ wsX0_commit_r2) ++ wsX00)
def wsX0_takeWorkFromDisk : List Cond := .code yX0_takeWorkFromDisk cX0_takeWorkFromDisk 1 none :: ([.fieldLink RX0 13 "CommitLog" "onDisk" "[I", .fieldLink RX0 9 "CommitLog" "work" "[I", .methodLink RX0 74 arraycopyName, .native arraycopyName, .static arraycopyName, .initialized "java/lang/System", .methodLink RX0 61 yX0_clearWritten, .instanceMethod yX0_clearWritten, .selects RX0 yX0_clearWritten yX0_clearWritten, .initialized RX0, .code yX0_clearWritten cX0_clearWritten 2 none, .fieldLink RX0 19 "CommitLog" "written" "[Z"] ++ wsX00)
def wsX0_revert : List Cond := .code yX0_revert cX0_revert 1 (some .boolean) :: ([.fieldLink RX0 26 "CommitLog" "powered" "Z", .methodLink RX0 67 yX0_takeWorkFromDisk, .instanceMethod yX0_takeWorkFromDisk, .selects RX0 yX0_takeWorkFromDisk yX0_takeWorkFromDisk, .initialized RX0, .code yX0_takeWorkFromDisk cX0_takeWorkFromDisk 1 none, .fieldLink RX0 13 "CommitLog" "onDisk" "[I", .fieldLink RX0 9 "CommitLog" "work" "[I", .methodLink RX0 74 arraycopyName, .native arraycopyName, .static arraycopyName, .initialized "java/lang/System", .methodLink RX0 61 yX0_clearWritten, .instanceMethod yX0_clearWritten, .selects RX0 yX0_clearWritten yX0_clearWritten, .code yX0_clearWritten cX0_clearWritten 2 none, .fieldLink RX0 19 "CommitLog" "written" "[Z"] ++ wsX00)
def wsX0_cut : List Cond := .code yX0_cut cX0_cut 3 (some .boolean) :: ([.fieldLink RX0 26 "CommitLog" "powered" "Z", .fieldLink RX0 37 "CommitLog" "commitsUntilCut" "I", .fieldLink RX0 40 "CommitLog" "cutShare" "I"] ++ wsX00)
def wsX0_start_r1 : List Cond := [Cond.fieldLink RX0 26 "CommitLog" "powered" "Z", Cond.fieldLink RX0 30 "CommitLog" "marked" "Z", Cond.fieldLink RX0 33 "CommitLog" "latestCount" "I", Cond.methodLink RX0 64 yX0_bringLogToDisk, Cond.instanceMethod yX0_bringLogToDisk, Cond.selects RX0 yX0_bringLogToDisk yX0_bringLogToDisk, Cond.initialized RX0, Cond.code yX0_bringLogToDisk cX0_bringLogToDisk 4 none, Cond.fieldLink RX0 23 "CommitLog" "logged" "[Z", Cond.fieldLink RX0 16 "CommitLog" "logBytes" "[I", Cond.fieldLink RX0 13 "CommitLog" "onDisk" "[I", Cond.methodLink RX0 70 yX0_copyBlock, Cond.static yX0_copyBlock, Cond.code yX0_copyBlock cX0_copyBlock 3 none, Cond.methodLink RX0 74 arraycopyName, Cond.native arraycopyName, Cond.static arraycopyName, Cond.initialized "java/lang/System", Cond.methodLink RX0 67 yX0_takeWorkFromDisk, Cond.instanceMethod yX0_takeWorkFromDisk, Cond.selects RX0 yX0_takeWorkFromDisk yX0_takeWorkFromDisk, Cond.code yX0_takeWorkFromDisk cX0_takeWorkFromDisk 1 none, Cond.fieldLink RX0 9 "CommitLog" "work" "[I", Cond.methodLink RX0 61 yX0_clearWritten]
def wsX0_start_r2 : List Cond := [Cond.instanceMethod yX0_clearWritten, Cond.selects RX0 yX0_clearWritten yX0_clearWritten, Cond.code yX0_clearWritten cX0_clearWritten 2 none, Cond.fieldLink RX0 19 "CommitLog" "written" "[Z"]
def wsX0_start : List Cond := .code yX0_start cX0_start 2 (some .boolean) :: ((wsX0_start_r1 ++ wsX0_start_r2) ++ wsX00)
def wsX0_state : List Cond := .code yX0_state cX0_state 2 (some .int) :: ([.fieldLink RX0 26 "CommitLog" "powered" "Z", .fieldLink RX0 30 "CommitLog" "marked" "Z", .fieldLink RX0 33 "CommitLog" "latestCount" "I"] ++ wsX00)
def wsX1_init : List Cond := .code yX1_init cX1_init 1 none :: ([.methodLink RX1 1 objectInit, .instanceMethod objectInit, .code objectInit ⟨#[0xb1]⟩ 1 none, .arrayClass .byte, .fieldLink RX1 7 "CommitLogModel" "work" "[B", .fieldLink RX1 13 "CommitLogModel" "disk" "[B", .fieldLink RX1 16 "CommitLogModel" "log" "[B", .arrayClass .boolean, .fieldLink RX1 19 "CommitLogModel" "dirty" "[Z", .fieldLink RX1 23 "CommitLogModel" "logged" "[Z"] ++ wsX10)
def wsX1_in : List Cond := .code yX1_in cX1_in 3 (some .boolean) :: ([])
def wsX1_isPlace : List Cond := .code yX1_isPlace cX1_isPlace 2 (some .boolean) :: ([.methodLink RX1 26 yX1_in, .static yX1_in, .initialized RX1, .code yX1_in cX1_in 3 (some .boolean)])
def wsX1_write : List Cond := .code yX1_write cX1_write 4 (some .boolean) :: ([.fieldLink RX1 30 "CommitLogModel" "off" "Z", .fieldLink RX1 7 "CommitLogModel" "work" "[B", .fieldLink RX1 19 "CommitLogModel" "dirty" "[Z", .methodLink RX1 34 yX1_isPlace, .static yX1_isPlace, .initialized RX1, .code yX1_isPlace cX1_isPlace 2 (some .boolean), .methodLink RX1 26 yX1_in, .static yX1_in, .code yX1_in cX1_in 3 (some .boolean)] ++ wsX10)
def wsX1_read : List Cond := .code yX1_read cX1_read 3 (some .int) :: ([.fieldLink RX1 30 "CommitLogModel" "off" "Z", .fieldLink RX1 7 "CommitLogModel" "work" "[B", .methodLink RX1 34 yX1_isPlace, .static yX1_isPlace, .initialized RX1, .code yX1_isPlace cX1_isPlace 2 (some .boolean), .methodLink RX1 26 yX1_in, .static yX1_in, .code yX1_in cX1_in 3 (some .boolean)] ++ wsX10)
def wsX1_disk : List Cond := .code yX1_disk cX1_disk 3 (some .int) :: ([.fieldLink RX1 13 "CommitLogModel" "disk" "[B", .methodLink RX1 34 yX1_isPlace, .static yX1_isPlace, .initialized RX1, .code yX1_isPlace cX1_isPlace 2 (some .boolean), .methodLink RX1 26 yX1_in, .static yX1_in, .code yX1_in cX1_in 3 (some .boolean)] ++ wsX10)
def wsX1_dirty : List Cond := .code yX1_dirty cX1_dirty 2 (some .boolean) :: ([.fieldLink RX1 30 "CommitLogModel" "off" "Z", .fieldLink RX1 19 "CommitLogModel" "dirty" "[Z", .methodLink RX1 26 yX1_in, .static yX1_in, .initialized RX1, .code yX1_in cX1_in 3 (some .boolean)] ++ wsX10)
def wsX1_copy : List Cond := .code yX1_copy cX1_copy 4 none :: ([])
def wsX1_many : List Cond := .code yX1_many cX1_many 3 (some .int) :: ([.fieldLink RX1 19 "CommitLogModel" "dirty" "[Z"] ++ wsX10)
def wsX1_note : List Cond := .code yX1_note cX1_note 2 none :: ([.fieldLink RX1 23 "CommitLogModel" "logged" "[Z", .fieldLink RX1 19 "CommitLogModel" "dirty" "[Z", .fieldLink RX1 7 "CommitLogModel" "work" "[B", .fieldLink RX1 16 "CommitLogModel" "log" "[B", .fieldLink RX1 42 "CommitLogModel" "mark" "Z", .methodLink RX1 38 yX1_copy, .static yX1_copy, .initialized RX1, .code yX1_copy cX1_copy 4 none] ++ wsX10)
def wsX1_lay : List Cond := .code yX1_lay cX1_lay 4 none :: ([.fieldLink RX1 23 "CommitLogModel" "logged" "[Z", .fieldLink RX1 16 "CommitLogModel" "log" "[B", .fieldLink RX1 13 "CommitLogModel" "disk" "[B", .methodLink RX1 38 yX1_copy, .static yX1_copy, .initialized RX1, .code yX1_copy cX1_copy 4 none] ++ wsX10)
def wsX1_fresh : List Cond := .code yX1_fresh cX1_fresh 2 none :: ([.fieldLink RX1 13 "CommitLogModel" "disk" "[B", .fieldLink RX1 7 "CommitLogModel" "work" "[B", .fieldLink RX1 19 "CommitLogModel" "dirty" "[Z", .methodLink RX1 38 yX1_copy, .static yX1_copy, .initialized RX1, .code yX1_copy cX1_copy 4 none] ++ wsX10)
def wsX1_commit_r1 : List Cond := [Cond.fieldLink RX1 30 "CommitLogModel" "off" "Z", Cond.fieldLink RX1 49 "CommitLogModel" "latest" "I", Cond.fieldLink RX1 53 "CommitLogModel" "left" "I", Cond.fieldLink RX1 56 "CommitLogModel" "share" "I", Cond.fieldLink RX1 42 "CommitLogModel" "mark" "Z", Cond.fieldLink RX1 19 "CommitLogModel" "dirty" "[Z", Cond.methodLink RX1 45 yX1_many, Cond.instanceMethod yX1_many, Cond.selects RX1 yX1_many yX1_many, Cond.initialized RX1, Cond.code yX1_many cX1_many 3 (some .int), Cond.methodLink RX1 59 yX1_note, Cond.instanceMethod yX1_note, Cond.selects RX1 yX1_note yX1_note, Cond.code yX1_note cX1_note 2 none, Cond.fieldLink RX1 23 "CommitLogModel" "logged" "[Z", Cond.fieldLink RX1 7 "CommitLogModel" "work" "[B", Cond.fieldLink RX1 16 "CommitLogModel" "log" "[B", Cond.methodLink RX1 38 yX1_copy, Cond.static yX1_copy, Cond.code yX1_copy cX1_copy 4 none, Cond.methodLink RX1 62 yX1_lay, Cond.instanceMethod yX1_lay, Cond.selects RX1 yX1_lay yX1_lay]
def wsX1_commit_r2 : List Cond := [Cond.code yX1_lay cX1_lay 4 none, Cond.fieldLink RX1 13 "CommitLogModel" "disk" "[B"]
def wsX1_commit : List Cond := .code yX1_commit cX1_commit 3 (some .boolean) :: ((wsX1_commit_r1 ++ wsX1_commit_r2) ++ wsX10)
def wsX1_revert : List Cond := .code yX1_revert cX1_revert 1 (some .boolean) :: ([.fieldLink RX1 30 "CommitLogModel" "off" "Z", .methodLink RX1 66 yX1_fresh, .instanceMethod yX1_fresh, .selects RX1 yX1_fresh yX1_fresh, .initialized RX1, .code yX1_fresh cX1_fresh 2 none, .fieldLink RX1 13 "CommitLogModel" "disk" "[B", .fieldLink RX1 7 "CommitLogModel" "work" "[B", .fieldLink RX1 19 "CommitLogModel" "dirty" "[Z", .methodLink RX1 38 yX1_copy, .static yX1_copy, .code yX1_copy cX1_copy 4 none] ++ wsX10)
def wsX1_cut : List Cond := .code yX1_cut cX1_cut 3 (some .boolean) :: ([.fieldLink RX1 30 "CommitLogModel" "off" "Z", .fieldLink RX1 53 "CommitLogModel" "left" "I", .fieldLink RX1 56 "CommitLogModel" "share" "I", .methodLink RX1 26 yX1_in, .static yX1_in, .initialized RX1, .code yX1_in cX1_in 3 (some .boolean)] ++ wsX10)
def wsX1_loggedMany : List Cond := .code yX1_loggedMany cX1_loggedMany 3 (some .int) :: ([.fieldLink RX1 23 "CommitLogModel" "logged" "[Z"] ++ wsX10)
def wsX1_start_r1 : List Cond := [Cond.fieldLink RX1 30 "CommitLogModel" "off" "Z", Cond.fieldLink RX1 42 "CommitLogModel" "mark" "Z", Cond.methodLink RX1 26 yX1_in, Cond.static yX1_in, Cond.initialized RX1, Cond.code yX1_in cX1_in 3 (some .boolean), Cond.methodLink RX1 69 yX1_loggedMany, Cond.instanceMethod yX1_loggedMany, Cond.selects RX1 yX1_loggedMany yX1_loggedMany, Cond.code yX1_loggedMany cX1_loggedMany 3 (some .int), Cond.fieldLink RX1 23 "CommitLogModel" "logged" "[Z", Cond.methodLink RX1 62 yX1_lay, Cond.instanceMethod yX1_lay, Cond.selects RX1 yX1_lay yX1_lay, Cond.code yX1_lay cX1_lay 4 none, Cond.fieldLink RX1 16 "CommitLogModel" "log" "[B", Cond.fieldLink RX1 13 "CommitLogModel" "disk" "[B", Cond.methodLink RX1 38 yX1_copy, Cond.static yX1_copy, Cond.code yX1_copy cX1_copy 4 none, Cond.methodLink RX1 66 yX1_fresh, Cond.instanceMethod yX1_fresh, Cond.selects RX1 yX1_fresh yX1_fresh, Cond.code yX1_fresh cX1_fresh 2 none]
def wsX1_start_r2 : List Cond := [Cond.fieldLink RX1 7 "CommitLogModel" "work" "[B", Cond.fieldLink RX1 19 "CommitLogModel" "dirty" "[Z"]
def wsX1_start : List Cond := .code yX1_start cX1_start 2 (some .boolean) :: ((wsX1_start_r1 ++ wsX1_start_r2) ++ wsX10)
def wsX1_state : List Cond := .code yX1_state cX1_state 2 (some .int) :: ([.fieldLink RX1 30 "CommitLogModel" "off" "Z", .fieldLink RX1 42 "CommitLogModel" "mark" "Z", .fieldLink RX1 49 "CommitLogModel" "latest" "I"] ++ wsX10)
def wsL_law_r1 : List Cond := [Cond.classLink RL 7 RX0, Cond.instantiable RX0 10, Cond.initialized RX0, Cond.classLink RL 10 RX1, Cond.instantiable RX1 10, Cond.initialized RX1, Cond.methodLink RL 9 yX0_init, Cond.instanceMethod yX0_init, Cond.code yX0_init cX0_init 1 none, Cond.methodLink RX0 3 objectInit, Cond.instanceMethod objectInit, Cond.code objectInit ⟨#[0xb1]⟩ 1 none, Cond.arrayClass .int, Cond.fieldLink RX0 9 "CommitLog" "work" "[I", Cond.fieldLink RX0 13 "CommitLog" "onDisk" "[I", Cond.fieldLink RX0 16 "CommitLog" "logBytes" "[I", Cond.arrayClass .boolean, Cond.fieldLink RX0 19 "CommitLog" "written" "[Z", Cond.fieldLink RX0 23 "CommitLog" "logged" "[Z", Cond.fieldLink RX0 26 "CommitLog" "powered" "Z", Cond.fieldLink RX0 30 "CommitLog" "marked" "Z", Cond.fieldLink RX0 33 "CommitLog" "latestCount" "I", Cond.fieldLink RX0 37 "CommitLog" "commitsUntilCut" "I", Cond.fieldLink RX0 40 "CommitLog" "cutShare" "I"]
def wsL_law_r2 : List Cond := [Cond.methodLink RL 12 yX1_init, Cond.instanceMethod yX1_init, Cond.code yX1_init cX1_init 1 none, Cond.methodLink RX1 1 objectInit, Cond.arrayClass .byte, Cond.fieldLink RX1 7 "CommitLogModel" "work" "[B", Cond.fieldLink RX1 13 "CommitLogModel" "disk" "[B", Cond.fieldLink RX1 16 "CommitLogModel" "log" "[B", Cond.fieldLink RX1 19 "CommitLogModel" "dirty" "[Z", Cond.fieldLink RX1 23 "CommitLogModel" "logged" "[Z", Cond.methodLink RL 13 yX0_write, Cond.instanceMethod yX0_write, Cond.selects RX0 yX0_write yX0_write, Cond.code yX0_write cX0_write 4 (some .boolean), Cond.methodLink RX0 43 yX0_isBlock, Cond.static yX0_isBlock, Cond.code yX0_isBlock cX0_isBlock 1 (some .boolean), Cond.methodLink RX0 47 yX0_isPlace, Cond.static yX0_isPlace, Cond.code yX0_isPlace cX0_isPlace 1 (some .boolean), Cond.methodLink RL 17 yX1_write, Cond.instanceMethod yX1_write, Cond.selects RX1 yX1_write yX1_write, Cond.code yX1_write cX1_write 4 (some .boolean)]
def wsL_law_r3 : List Cond := [Cond.fieldLink RX1 30 "CommitLogModel" "off" "Z", Cond.methodLink RX1 34 yX1_isPlace, Cond.static yX1_isPlace, Cond.code yX1_isPlace cX1_isPlace 2 (some .boolean), Cond.methodLink RX1 26 yX1_in, Cond.static yX1_in, Cond.code yX1_in cX1_in 3 (some .boolean), Cond.methodLink RL 18 yX0_read, Cond.instanceMethod yX0_read, Cond.selects RX0 yX0_read yX0_read, Cond.code yX0_read cX0_read 3 (some .int), Cond.methodLink RL 22 yX1_read, Cond.instanceMethod yX1_read, Cond.selects RX1 yX1_read yX1_read, Cond.code yX1_read cX1_read 3 (some .int), Cond.methodLink RL 23 yX0_disk, Cond.instanceMethod yX0_disk, Cond.selects RX0 yX0_disk yX0_disk, Cond.code yX0_disk cX0_disk 3 (some .int), Cond.methodLink RL 26 yX1_disk, Cond.instanceMethod yX1_disk, Cond.selects RX1 yX1_disk yX1_disk, Cond.code yX1_disk cX1_disk 3 (some .int), Cond.methodLink RL 27 yX0_dirty]
def wsL_law_r4 : List Cond := [Cond.instanceMethod yX0_dirty, Cond.selects RX0 yX0_dirty yX0_dirty, Cond.code yX0_dirty cX0_dirty 2 (some .boolean), Cond.methodLink RL 31 yX1_dirty, Cond.instanceMethod yX1_dirty, Cond.selects RX1 yX1_dirty yX1_dirty, Cond.code yX1_dirty cX1_dirty 2 (some .boolean), Cond.methodLink RL 32 yX0_commit, Cond.instanceMethod yX0_commit, Cond.selects RX0 yX0_commit yX0_commit, Cond.code yX0_commit cX0_commit 2 (some .boolean), Cond.methodLink RX0 50 yX0_takeShareOfThisCommit, Cond.instanceMethod yX0_takeShareOfThisCommit, Cond.selects RX0 yX0_takeShareOfThisCommit yX0_takeShareOfThisCommit, Cond.code yX0_takeShareOfThisCommit cX0_takeShareOfThisCommit 1 (some .int), Cond.methodLink RX0 54 yX0_countWritten, Cond.instanceMethod yX0_countWritten, Cond.selects RX0 yX0_countWritten yX0_countWritten, Cond.code yX0_countWritten cX0_countWritten 3 (some .int), Cond.methodLink RX0 57 yX0_bringToLog, Cond.instanceMethod yX0_bringToLog, Cond.selects RX0 yX0_bringToLog yX0_bringToLog, Cond.code yX0_bringToLog cX0_bringToLog 4 none, Cond.methodLink RX0 70 yX0_copyBlock]
def wsL_law_r5 : List Cond := [Cond.static yX0_copyBlock, Cond.code yX0_copyBlock cX0_copyBlock 3 none, Cond.methodLink RX0 74 arraycopyName, Cond.native arraycopyName, Cond.static arraycopyName, Cond.initialized "java/lang/System", Cond.methodLink RX0 61 yX0_clearWritten, Cond.instanceMethod yX0_clearWritten, Cond.selects RX0 yX0_clearWritten yX0_clearWritten, Cond.code yX0_clearWritten cX0_clearWritten 2 none, Cond.methodLink RX0 64 yX0_bringLogToDisk, Cond.instanceMethod yX0_bringLogToDisk, Cond.selects RX0 yX0_bringLogToDisk yX0_bringLogToDisk, Cond.code yX0_bringLogToDisk cX0_bringLogToDisk 4 none, Cond.methodLink RL 36 yX1_commit, Cond.instanceMethod yX1_commit, Cond.selects RX1 yX1_commit yX1_commit, Cond.code yX1_commit cX1_commit 3 (some .boolean), Cond.fieldLink RX1 49 "CommitLogModel" "latest" "I", Cond.fieldLink RX1 53 "CommitLogModel" "left" "I", Cond.fieldLink RX1 56 "CommitLogModel" "share" "I", Cond.fieldLink RX1 42 "CommitLogModel" "mark" "Z", Cond.methodLink RX1 45 yX1_many, Cond.instanceMethod yX1_many]
def wsL_law_r6 : List Cond := [Cond.selects RX1 yX1_many yX1_many, Cond.code yX1_many cX1_many 3 (some .int), Cond.methodLink RX1 59 yX1_note, Cond.instanceMethod yX1_note, Cond.selects RX1 yX1_note yX1_note, Cond.code yX1_note cX1_note 2 none, Cond.methodLink RX1 38 yX1_copy, Cond.static yX1_copy, Cond.code yX1_copy cX1_copy 4 none, Cond.methodLink RX1 62 yX1_lay, Cond.instanceMethod yX1_lay, Cond.selects RX1 yX1_lay yX1_lay, Cond.code yX1_lay cX1_lay 4 none, Cond.methodLink RL 37 yX0_revert, Cond.instanceMethod yX0_revert, Cond.selects RX0 yX0_revert yX0_revert, Cond.code yX0_revert cX0_revert 1 (some .boolean), Cond.methodLink RX0 67 yX0_takeWorkFromDisk, Cond.instanceMethod yX0_takeWorkFromDisk, Cond.selects RX0 yX0_takeWorkFromDisk yX0_takeWorkFromDisk, Cond.code yX0_takeWorkFromDisk cX0_takeWorkFromDisk 1 none, Cond.methodLink RL 40 yX1_revert, Cond.instanceMethod yX1_revert, Cond.selects RX1 yX1_revert yX1_revert]
def wsL_law_r7 : List Cond := [Cond.code yX1_revert cX1_revert 1 (some .boolean), Cond.methodLink RX1 66 yX1_fresh, Cond.instanceMethod yX1_fresh, Cond.selects RX1 yX1_fresh yX1_fresh, Cond.code yX1_fresh cX1_fresh 2 none, Cond.methodLink RL 41 yX0_cut, Cond.instanceMethod yX0_cut, Cond.selects RX0 yX0_cut yX0_cut, Cond.code yX0_cut cX0_cut 3 (some .boolean), Cond.methodLink RL 45 yX1_cut, Cond.instanceMethod yX1_cut, Cond.selects RX1 yX1_cut yX1_cut, Cond.code yX1_cut cX1_cut 3 (some .boolean), Cond.methodLink RL 46 yX0_start, Cond.instanceMethod yX0_start, Cond.selects RX0 yX0_start yX0_start, Cond.code yX0_start cX0_start 2 (some .boolean), Cond.methodLink RL 49 yX1_start, Cond.instanceMethod yX1_start, Cond.selects RX1 yX1_start yX1_start, Cond.code yX1_start cX1_start 2 (some .boolean), Cond.methodLink RX1 69 yX1_loggedMany, Cond.instanceMethod yX1_loggedMany, Cond.selects RX1 yX1_loggedMany yX1_loggedMany]
def wsL_law_r8 : List Cond := [Cond.code yX1_loggedMany cX1_loggedMany 3 (some .int), Cond.methodLink RL 50 yX0_state, Cond.instanceMethod yX0_state, Cond.selects RX0 yX0_state yX0_state, Cond.code yX0_state cX0_state 2 (some .int), Cond.methodLink RL 54 yX1_state, Cond.instanceMethod yX1_state, Cond.selects RX1 yX1_state yX1_state, Cond.code yX1_state cX1_state 2 (some .int)]
def wsL_law : List Cond := (wsL_law_r1 ++ (wsL_law_r2 ++ (wsL_law_r3 ++ (wsL_law_r4 ++ (wsL_law_r5 ++ (wsL_law_r6 ++ (wsL_law_r7 ++ wsL_law_r8))))))) ++ wsX00 ++ wsX10 ++ ([] : List Cond)
set_option maxRecDepth 20000 in
theorem wsL_law_in : ∀ w ∈ wsL_law, w ∈ lw_tbl := fun w h => (goodIn_p wsL_law [19, 22, 132, 59, 62, 65, 169, 172, 175, 69, 179, 73, 183, 77, 187, 81, 85, 89, 93, 96, 103, 107, 191, 195, 199, 202, 206, 111, 115, 210, 214, 119, 218, 123, 222, 226, 127, 230] (by decide +kernel) (by decide +kernel) w h).1
theorem inlX0 : ∀ w ∈ wsX00, w ∈ wsL_law := fun _ h => List.mem_append_left _ (List.mem_append_left _ (List.mem_append_right _ h))
theorem inX0 : ∀ w ∈ wsX00, w ∈ lw_tbl := fun w h => wsL_law_in w (inlX0 w h)
theorem inlX1 : ∀ w ∈ wsX10, w ∈ wsL_law := fun _ h => List.mem_append_left _ (List.mem_append_right _ h)
theorem inX1 : ∀ w ∈ wsX10, w ∈ lw_tbl := fun w h => wsL_law_in w (inlX1 w h)
theorem inJ10 : ∀ w ∈ wsJ100, w ∈ lw_tbl := by decide +kernel
theorem dX0_init_0 : decode cX0_init 0 = .ok (.aload_n 0, 1) := by decide +kernel
theorem dX0_init_1 : decode cX0_init 1 = .ok (.invokespecial 3, 3) := by decide +kernel
theorem dX0_init_4 : decode cX0_init 4 = .ok (.aload_n 0, 1) := by decide +kernel
theorem dX0_init_5 : decode cX0_init 5 = .ok (.sipush 384, 3) := by decide +kernel
theorem dX0_init_8 : decode cX0_init 8 = .ok (.newarray .int, 2) := by decide +kernel
theorem dX0_init_10 : decode cX0_init 10 = .ok (.putfield 9, 3) := by decide +kernel
theorem dX0_init_13 : decode cX0_init 13 = .ok (.aload_n 0, 1) := by decide +kernel
theorem dX0_init_14 : decode cX0_init 14 = .ok (.sipush 384, 3) := by decide +kernel
theorem dX0_init_17 : decode cX0_init 17 = .ok (.newarray .int, 2) := by decide +kernel
theorem dX0_init_19 : decode cX0_init 19 = .ok (.putfield 13, 3) := by decide +kernel
theorem dX0_init_22 : decode cX0_init 22 = .ok (.aload_n 0, 1) := by decide +kernel
theorem dX0_init_23 : decode cX0_init 23 = .ok (.sipush 384, 3) := by decide +kernel
theorem dX0_init_26 : decode cX0_init 26 = .ok (.newarray .int, 2) := by decide +kernel
theorem dX0_init_28 : decode cX0_init 28 = .ok (.putfield 16, 3) := by decide +kernel
theorem dX0_init_31 : decode cX0_init 31 = .ok (.aload_n 0, 1) := by decide +kernel
theorem dX0_init_32 : decode cX0_init 32 = .ok (.bipush 24, 2) := by decide +kernel
theorem dX0_init_34 : decode cX0_init 34 = .ok (.newarray .boolean, 2) := by decide +kernel
theorem dX0_init_36 : decode cX0_init 36 = .ok (.putfield 19, 3) := by decide +kernel
theorem dX0_init_39 : decode cX0_init 39 = .ok (.aload_n 0, 1) := by decide +kernel
theorem dX0_init_40 : decode cX0_init 40 = .ok (.bipush 24, 2) := by decide +kernel
theorem dX0_init_42 : decode cX0_init 42 = .ok (.newarray .boolean, 2) := by decide +kernel
theorem dX0_init_44 : decode cX0_init 44 = .ok (.putfield 23, 3) := by decide +kernel
theorem dX0_init_47 : decode cX0_init 47 = .ok (.aload_n 0, 1) := by decide +kernel
theorem dX0_init_48 : decode cX0_init 48 = .ok (.iconst 1, 1) := by decide +kernel
theorem dX0_init_49 : decode cX0_init 49 = .ok (.putfield 26, 3) := by decide +kernel
theorem dX0_init_52 : decode cX0_init 52 = .ok (.aload_n 0, 1) := by decide +kernel
theorem dX0_init_53 : decode cX0_init 53 = .ok (.iconst 0, 1) := by decide +kernel
theorem dX0_init_54 : decode cX0_init 54 = .ok (.putfield 30, 3) := by decide +kernel
theorem dX0_init_57 : decode cX0_init 57 = .ok (.aload_n 0, 1) := by decide +kernel
theorem dX0_init_58 : decode cX0_init 58 = .ok (.iconst 0, 1) := by decide +kernel
theorem dX0_init_59 : decode cX0_init 59 = .ok (.putfield 33, 3) := by decide +kernel
theorem dX0_init_62 : decode cX0_init 62 = .ok (.aload_n 0, 1) := by decide +kernel
theorem dX0_init_63 : decode cX0_init 63 = .ok (.iconst 0, 1) := by decide +kernel
theorem dX0_init_64 : decode cX0_init 64 = .ok (.putfield 37, 3) := by decide +kernel
theorem dX0_init_67 : decode cX0_init 67 = .ok (.aload_n 0, 1) := by decide +kernel
theorem dX0_init_68 : decode cX0_init 68 = .ok (.iconst 0, 1) := by decide +kernel
theorem dX0_init_69 : decode cX0_init 69 = .ok (.putfield 40, 3) := by decide +kernel
theorem dX0_init_72 : decode cX0_init 72 = .ok (.return_, 1) := by decide +kernel
set_option maxRecDepth 20000 in
theorem ggX0_write_X0_isBlock : GoodIn wsX0_write wsX0_isBlock := goodIn_r _ [7] (by decide +kernel) (by decide +kernel)
set_option maxRecDepth 20000 in
theorem gX0_write_X0_isBlock : GoodIn wsX0_write (va_wsS RX0 43 yX0_isBlock wsX0_isBlock) := goodIn_app (goodIn_of _ (by decide +kernel)) ggX0_write_X0_isBlock
set_option maxRecDepth 20000 in
theorem ggX0_write_X0_isPlace : GoodIn wsX0_write wsX0_isPlace := goodIn_r _ [10] (by decide +kernel) (by decide +kernel)
set_option maxRecDepth 20000 in
theorem gX0_write_X0_isPlace : GoodIn wsX0_write (va_wsS RX0 47 yX0_isPlace wsX0_isPlace) := goodIn_app (goodIn_of _ (by decide +kernel)) ggX0_write_X0_isPlace
theorem dX0_write_0 : decode cX0_write 0 = .ok (.aload_n 0, 1) := by decide +kernel
theorem dX0_write_1 : decode cX0_write 1 = .ok (.getfield 26, 3) := by decide +kernel
theorem dX0_write_4 : decode cX0_write 4 = .ok (.ifCond .eq 17, 3) := by decide +kernel
theorem dX0_write_7 : decode cX0_write 7 = .ok (.iload_n 1, 1) := by decide +kernel
theorem dX0_write_8 : decode cX0_write 8 = .ok (.invokestatic 43, 3) := by decide +kernel
theorem dX0_write_11 : decode cX0_write 11 = .ok (.ifCond .eq 10, 3) := by decide +kernel
theorem dX0_write_14 : decode cX0_write 14 = .ok (.iload_n 2, 1) := by decide +kernel
theorem dX0_write_15 : decode cX0_write 15 = .ok (.invokestatic 47, 3) := by decide +kernel
theorem dX0_write_18 : decode cX0_write 18 = .ok (.ifCond .ne 5, 3) := by decide +kernel
theorem dX0_write_21 : decode cX0_write 21 = .ok (.iconst 0, 1) := by decide +kernel
theorem dX0_write_22 : decode cX0_write 22 = .ok (.ireturn, 1) := by decide +kernel
theorem dX0_write_23 : decode cX0_write 23 = .ok (.aload_n 0, 1) := by decide +kernel
theorem dX0_write_24 : decode cX0_write 24 = .ok (.getfield 9, 3) := by decide +kernel
theorem dX0_write_27 : decode cX0_write 27 = .ok (.iload_n 1, 1) := by decide +kernel
theorem dX0_write_28 : decode cX0_write 28 = .ok (.bipush 16, 2) := by decide +kernel
theorem dX0_write_30 : decode cX0_write 30 = .ok (.imul, 1) := by decide +kernel
theorem dX0_write_31 : decode cX0_write 31 = .ok (.iload_n 2, 1) := by decide +kernel
theorem dX0_write_32 : decode cX0_write 32 = .ok (.iadd, 1) := by decide +kernel
theorem dX0_write_33 : decode cX0_write 33 = .ok (.iload_n 3, 1) := by decide +kernel
theorem dX0_write_34 : decode cX0_write 34 = .ok (.sipush 255, 3) := by decide +kernel
theorem dX0_write_37 : decode cX0_write 37 = .ok (.iand, 1) := by decide +kernel
theorem dX0_write_38 : decode cX0_write 38 = .ok (.iastore, 1) := by decide +kernel
theorem dX0_write_39 : decode cX0_write 39 = .ok (.aload_n 0, 1) := by decide +kernel
theorem dX0_write_40 : decode cX0_write 40 = .ok (.getfield 19, 3) := by decide +kernel
theorem dX0_write_43 : decode cX0_write 43 = .ok (.iload_n 1, 1) := by decide +kernel
theorem dX0_write_44 : decode cX0_write 44 = .ok (.iconst 1, 1) := by decide +kernel
theorem dX0_write_45 : decode cX0_write 45 = .ok (.bastore, 1) := by decide +kernel
theorem dX0_write_46 : decode cX0_write 46 = .ok (.iconst 1, 1) := by decide +kernel
theorem dX0_write_47 : decode cX0_write 47 = .ok (.ireturn, 1) := by decide +kernel
set_option maxRecDepth 20000 in
theorem ggX0_read_X0_isBlock : GoodIn wsX0_read wsX0_isBlock := goodIn_r _ [6] (by decide +kernel) (by decide +kernel)
set_option maxRecDepth 20000 in
theorem gX0_read_X0_isBlock : GoodIn wsX0_read (va_wsS RX0 43 yX0_isBlock wsX0_isBlock) := goodIn_app (goodIn_of _ (by decide +kernel)) ggX0_read_X0_isBlock
set_option maxRecDepth 20000 in
theorem ggX0_read_X0_isPlace : GoodIn wsX0_read wsX0_isPlace := goodIn_r _ [9] (by decide +kernel) (by decide +kernel)
set_option maxRecDepth 20000 in
theorem gX0_read_X0_isPlace : GoodIn wsX0_read (va_wsS RX0 47 yX0_isPlace wsX0_isPlace) := goodIn_app (goodIn_of _ (by decide +kernel)) ggX0_read_X0_isPlace
theorem dX0_read_0 : decode cX0_read 0 = .ok (.aload_n 0, 1) := by decide +kernel
theorem dX0_read_1 : decode cX0_read 1 = .ok (.getfield 26, 3) := by decide +kernel
theorem dX0_read_4 : decode cX0_read 4 = .ok (.ifCond .eq 17, 3) := by decide +kernel
theorem dX0_read_7 : decode cX0_read 7 = .ok (.iload_n 1, 1) := by decide +kernel
theorem dX0_read_8 : decode cX0_read 8 = .ok (.invokestatic 43, 3) := by decide +kernel
theorem dX0_read_11 : decode cX0_read 11 = .ok (.ifCond .eq 10, 3) := by decide +kernel
theorem dX0_read_14 : decode cX0_read 14 = .ok (.iload_n 2, 1) := by decide +kernel
theorem dX0_read_15 : decode cX0_read 15 = .ok (.invokestatic 47, 3) := by decide +kernel
theorem dX0_read_18 : decode cX0_read 18 = .ok (.ifCond .ne 5, 3) := by decide +kernel
theorem dX0_read_21 : decode cX0_read 21 = .ok (.iconst (-1), 1) := by decide +kernel
theorem dX0_read_22 : decode cX0_read 22 = .ok (.ireturn, 1) := by decide +kernel
theorem dX0_read_23 : decode cX0_read 23 = .ok (.aload_n 0, 1) := by decide +kernel
theorem dX0_read_24 : decode cX0_read 24 = .ok (.getfield 9, 3) := by decide +kernel
theorem dX0_read_27 : decode cX0_read 27 = .ok (.iload_n 1, 1) := by decide +kernel
theorem dX0_read_28 : decode cX0_read 28 = .ok (.bipush 16, 2) := by decide +kernel
theorem dX0_read_30 : decode cX0_read 30 = .ok (.imul, 1) := by decide +kernel
theorem dX0_read_31 : decode cX0_read 31 = .ok (.iload_n 2, 1) := by decide +kernel
theorem dX0_read_32 : decode cX0_read 32 = .ok (.iadd, 1) := by decide +kernel
theorem dX0_read_33 : decode cX0_read 33 = .ok (.iaload, 1) := by decide +kernel
theorem dX0_read_34 : decode cX0_read 34 = .ok (.ireturn, 1) := by decide +kernel
set_option maxRecDepth 20000 in
theorem ggX0_disk_X0_isBlock : GoodIn wsX0_disk wsX0_isBlock := goodIn_r _ [5] (by decide +kernel) (by decide +kernel)
set_option maxRecDepth 20000 in
theorem gX0_disk_X0_isBlock : GoodIn wsX0_disk (va_wsS RX0 43 yX0_isBlock wsX0_isBlock) := goodIn_app (goodIn_of _ (by decide +kernel)) ggX0_disk_X0_isBlock
set_option maxRecDepth 20000 in
theorem ggX0_disk_X0_isPlace : GoodIn wsX0_disk wsX0_isPlace := goodIn_r _ [8] (by decide +kernel) (by decide +kernel)
set_option maxRecDepth 20000 in
theorem gX0_disk_X0_isPlace : GoodIn wsX0_disk (va_wsS RX0 47 yX0_isPlace wsX0_isPlace) := goodIn_app (goodIn_of _ (by decide +kernel)) ggX0_disk_X0_isPlace
theorem dX0_disk_0 : decode cX0_disk 0 = .ok (.iload_n 1, 1) := by decide +kernel
theorem dX0_disk_1 : decode cX0_disk 1 = .ok (.invokestatic 43, 3) := by decide +kernel
theorem dX0_disk_4 : decode cX0_disk 4 = .ok (.ifCond .eq 10, 3) := by decide +kernel
theorem dX0_disk_7 : decode cX0_disk 7 = .ok (.iload_n 2, 1) := by decide +kernel
theorem dX0_disk_8 : decode cX0_disk 8 = .ok (.invokestatic 47, 3) := by decide +kernel
theorem dX0_disk_11 : decode cX0_disk 11 = .ok (.ifCond .ne 5, 3) := by decide +kernel
theorem dX0_disk_14 : decode cX0_disk 14 = .ok (.iconst (-1), 1) := by decide +kernel
theorem dX0_disk_15 : decode cX0_disk 15 = .ok (.ireturn, 1) := by decide +kernel
theorem dX0_disk_16 : decode cX0_disk 16 = .ok (.aload_n 0, 1) := by decide +kernel
theorem dX0_disk_17 : decode cX0_disk 17 = .ok (.getfield 13, 3) := by decide +kernel
theorem dX0_disk_20 : decode cX0_disk 20 = .ok (.iload_n 1, 1) := by decide +kernel
theorem dX0_disk_21 : decode cX0_disk 21 = .ok (.bipush 16, 2) := by decide +kernel
theorem dX0_disk_23 : decode cX0_disk 23 = .ok (.imul, 1) := by decide +kernel
theorem dX0_disk_24 : decode cX0_disk 24 = .ok (.iload_n 2, 1) := by decide +kernel
theorem dX0_disk_25 : decode cX0_disk 25 = .ok (.iadd, 1) := by decide +kernel
theorem dX0_disk_26 : decode cX0_disk 26 = .ok (.iaload, 1) := by decide +kernel
theorem dX0_disk_27 : decode cX0_disk 27 = .ok (.ireturn, 1) := by decide +kernel
set_option maxRecDepth 20000 in
theorem ggX0_dirty_X0_isBlock : GoodIn wsX0_dirty wsX0_isBlock := goodIn_r _ [6] (by decide +kernel) (by decide +kernel)
set_option maxRecDepth 20000 in
theorem gX0_dirty_X0_isBlock : GoodIn wsX0_dirty (va_wsS RX0 43 yX0_isBlock wsX0_isBlock) := goodIn_app (goodIn_of _ (by decide +kernel)) ggX0_dirty_X0_isBlock
theorem dX0_dirty_0 : decode cX0_dirty 0 = .ok (.aload_n 0, 1) := by decide +kernel
theorem dX0_dirty_1 : decode cX0_dirty 1 = .ok (.getfield 26, 3) := by decide +kernel
theorem dX0_dirty_4 : decode cX0_dirty 4 = .ok (.ifCond .eq 23, 3) := by decide +kernel
theorem dX0_dirty_7 : decode cX0_dirty 7 = .ok (.iload_n 1, 1) := by decide +kernel
theorem dX0_dirty_8 : decode cX0_dirty 8 = .ok (.invokestatic 43, 3) := by decide +kernel
theorem dX0_dirty_11 : decode cX0_dirty 11 = .ok (.ifCond .eq 16, 3) := by decide +kernel
theorem dX0_dirty_14 : decode cX0_dirty 14 = .ok (.aload_n 0, 1) := by decide +kernel
theorem dX0_dirty_15 : decode cX0_dirty 15 = .ok (.getfield 19, 3) := by decide +kernel
theorem dX0_dirty_18 : decode cX0_dirty 18 = .ok (.iload_n 1, 1) := by decide +kernel
theorem dX0_dirty_19 : decode cX0_dirty 19 = .ok (.baload, 1) := by decide +kernel
theorem dX0_dirty_20 : decode cX0_dirty 20 = .ok (.ifCond .eq 7, 3) := by decide +kernel
theorem dX0_dirty_23 : decode cX0_dirty 23 = .ok (.iconst 1, 1) := by decide +kernel
theorem dX0_dirty_24 : decode cX0_dirty 24 = .ok (.goto 4, 3) := by decide +kernel
theorem dX0_dirty_27 : decode cX0_dirty 27 = .ok (.iconst 0, 1) := by decide +kernel
theorem dX0_dirty_28 : decode cX0_dirty 28 = .ok (.ireturn, 1) := by decide +kernel
set_option maxRecDepth 20000 in
theorem ggX0_commit_X0_takeShareOfThisCommit : GoodIn wsX0_commit wsX0_takeShareOfThisCommit := goodIn_r _ [8, 9, 10, 39, 40, 41, 42, 43, 44, 45, 46, 47, 48] (by decide +kernel) (by decide +kernel)
set_option maxRecDepth 20000 in
theorem gX0_commit_X0_takeShareOfThisCommit : GoodIn wsX0_commit (wsV RX0 50 RX0 yX0_takeShareOfThisCommit wsX0_takeShareOfThisCommit) := goodIn_app (goodIn_of _ (by decide +kernel)) ggX0_commit_X0_takeShareOfThisCommit
set_option maxRecDepth 20000 in
theorem ggX0_commit_X0_countWritten : GoodIn wsX0_commit wsX0_countWritten := goodIn_r _ [14, 15, 39, 40, 41, 42, 43, 44, 45, 46, 47, 48] (by decide +kernel) (by decide +kernel)
set_option maxRecDepth 20000 in
theorem gX0_commit_X0_countWritten : GoodIn wsX0_commit (wsV RX0 54 RX0 yX0_countWritten wsX0_countWritten) := goodIn_app (goodIn_of _ (by decide +kernel)) ggX0_commit_X0_countWritten
set_option maxRecDepth 20000 in
theorem ggX0_commit_X0_bringToLog : GoodIn wsX0_commit wsX0_bringToLog := goodIn_r _ [19, 20, 15, 21, 22, 23, 24, 7, 25, 26, 27, 28, 29, 39, 40, 41, 42, 43, 44, 45, 46, 47, 48] (by decide +kernel) (by decide +kernel)
set_option maxRecDepth 20000 in
theorem gX0_commit_X0_bringToLog : GoodIn wsX0_commit (wsV RX0 57 RX0 yX0_bringToLog wsX0_bringToLog) := goodIn_app (goodIn_of _ (by decide +kernel)) ggX0_commit_X0_bringToLog
set_option maxRecDepth 20000 in
theorem ggX0_commit_X0_clearWritten : GoodIn wsX0_commit wsX0_clearWritten := goodIn_r _ [33, 15, 39, 40, 41, 42, 43, 44, 45, 46, 47, 48] (by decide +kernel) (by decide +kernel)
set_option maxRecDepth 20000 in
theorem gX0_commit_X0_clearWritten : GoodIn wsX0_commit (wsV RX0 61 RX0 yX0_clearWritten wsX0_clearWritten) := goodIn_app (goodIn_of _ (by decide +kernel)) ggX0_commit_X0_clearWritten
set_option maxRecDepth 20000 in
theorem ggX0_commit_X0_bringLogToDisk : GoodIn wsX0_commit wsX0_bringLogToDisk := goodIn_r _ [37, 20, 22, 38, 23, 24, 7, 25, 26, 27, 28, 29, 39, 40, 41, 42, 43, 44, 45, 46, 47, 48] (by decide +kernel) (by decide +kernel)
set_option maxRecDepth 20000 in
theorem gX0_commit_X0_bringLogToDisk : GoodIn wsX0_commit (wsV RX0 64 RX0 yX0_bringLogToDisk wsX0_bringLogToDisk) := goodIn_app (goodIn_of _ (by decide +kernel)) ggX0_commit_X0_bringLogToDisk
theorem dX0_commit_0 : decode cX0_commit 0 = .ok (.aload_n 0, 1) := by decide +kernel
theorem dX0_commit_1 : decode cX0_commit 1 = .ok (.getfield 26, 3) := by decide +kernel
theorem dX0_commit_4 : decode cX0_commit 4 = .ok (.ifCond .ne 5, 3) := by decide +kernel
theorem dX0_commit_7 : decode cX0_commit 7 = .ok (.iconst 0, 1) := by decide +kernel
theorem dX0_commit_8 : decode cX0_commit 8 = .ok (.ireturn, 1) := by decide +kernel
theorem dX0_commit_9 : decode cX0_commit 9 = .ok (.aload_n 0, 1) := by decide +kernel
theorem dX0_commit_10 : decode cX0_commit 10 = .ok (.invokevirtual 50, 3) := by decide +kernel
theorem dX0_commit_13 : decode cX0_commit 13 = .ok (.istore_n 1, 1) := by decide +kernel
theorem dX0_commit_14 : decode cX0_commit 14 = .ok (.aload_n 0, 1) := by decide +kernel
theorem dX0_commit_15 : decode cX0_commit 15 = .ok (.aload_n 0, 1) := by decide +kernel
theorem dX0_commit_16 : decode cX0_commit 16 = .ok (.invokevirtual 54, 3) := by decide +kernel
theorem dX0_commit_19 : decode cX0_commit 19 = .ok (.putfield 33, 3) := by decide +kernel
theorem dX0_commit_22 : decode cX0_commit 22 = .ok (.aload_n 0, 1) := by decide +kernel
theorem dX0_commit_23 : decode cX0_commit 23 = .ok (.iload_n 1, 1) := by decide +kernel
theorem dX0_commit_24 : decode cX0_commit 24 = .ok (.sipush 500, 3) := by decide +kernel
theorem dX0_commit_27 : decode cX0_commit 27 = .ok (.if_icmp .lt 7, 3) := by decide +kernel
theorem dX0_commit_30 : decode cX0_commit 30 = .ok (.iconst 1, 1) := by decide +kernel
theorem dX0_commit_31 : decode cX0_commit 31 = .ok (.goto 4, 3) := by decide +kernel
theorem dX0_commit_34 : decode cX0_commit 34 = .ok (.iconst 0, 1) := by decide +kernel
theorem dX0_commit_35 : decode cX0_commit 35 = .ok (.putfield 30, 3) := by decide +kernel
theorem dX0_commit_38 : decode cX0_commit 38 = .ok (.aload_n 0, 1) := by decide +kernel
theorem dX0_commit_39 : decode cX0_commit 39 = .ok (.aload_n 0, 1) := by decide +kernel
theorem dX0_commit_40 : decode cX0_commit 40 = .ok (.getfield 30, 3) := by decide +kernel
theorem dX0_commit_43 : decode cX0_commit 43 = .ok (.ifCond .eq 10, 3) := by decide +kernel
theorem dX0_commit_46 : decode cX0_commit 46 = .ok (.aload_n 0, 1) := by decide +kernel
theorem dX0_commit_47 : decode cX0_commit 47 = .ok (.getfield 33, 3) := by decide +kernel
theorem dX0_commit_50 : decode cX0_commit 50 = .ok (.goto 13, 3) := by decide +kernel
theorem dX0_commit_53 : decode cX0_commit 53 = .ok (.aload_n 0, 1) := by decide +kernel
theorem dX0_commit_54 : decode cX0_commit 54 = .ok (.getfield 33, 3) := by decide +kernel
theorem dX0_commit_57 : decode cX0_commit 57 = .ok (.iload_n 1, 1) := by decide +kernel
theorem dX0_commit_58 : decode cX0_commit 58 = .ok (.imul, 1) := by decide +kernel
theorem dX0_commit_59 : decode cX0_commit 59 = .ok (.sipush 500, 3) := by decide +kernel
theorem dX0_commit_62 : decode cX0_commit 62 = .ok (.idiv, 1) := by decide +kernel
theorem dX0_commit_63 : decode cX0_commit 63 = .ok (.invokevirtual 57, 3) := by decide +kernel
theorem dX0_commit_66 : decode cX0_commit 66 = .ok (.aload_n 0, 1) := by decide +kernel
theorem dX0_commit_67 : decode cX0_commit 67 = .ok (.invokevirtual 61, 3) := by decide +kernel
theorem dX0_commit_70 : decode cX0_commit 70 = .ok (.aload_n 0, 1) := by decide +kernel
theorem dX0_commit_71 : decode cX0_commit 71 = .ok (.getfield 30, 3) := by decide +kernel
theorem dX0_commit_74 : decode cX0_commit 74 = .ok (.ifCond .eq 21, 3) := by decide +kernel
theorem dX0_commit_77 : decode cX0_commit 77 = .ok (.aload_n 0, 1) := by decide +kernel
theorem dX0_commit_78 : decode cX0_commit 78 = .ok (.aload_n 0, 1) := by decide +kernel
theorem dX0_commit_79 : decode cX0_commit 79 = .ok (.getfield 33, 3) := by decide +kernel
theorem dX0_commit_82 : decode cX0_commit 82 = .ok (.iload_n 1, 1) := by decide +kernel
theorem dX0_commit_83 : decode cX0_commit 83 = .ok (.sipush 500, 3) := by decide +kernel
theorem dX0_commit_86 : decode cX0_commit 86 = .ok (.isub, 1) := by decide +kernel
theorem dX0_commit_87 : decode cX0_commit 87 = .ok (.imul, 1) := by decide +kernel
theorem dX0_commit_88 : decode cX0_commit 88 = .ok (.sipush 500, 3) := by decide +kernel
theorem dX0_commit_91 : decode cX0_commit 91 = .ok (.idiv, 1) := by decide +kernel
theorem dX0_commit_92 : decode cX0_commit 92 = .ok (.invokevirtual 64, 3) := by decide +kernel
theorem dX0_commit_95 : decode cX0_commit 95 = .ok (.aload_n 0, 1) := by decide +kernel
theorem dX0_commit_96 : decode cX0_commit 96 = .ok (.iload_n 1, 1) := by decide +kernel
theorem dX0_commit_97 : decode cX0_commit 97 = .ok (.sipush 1000, 3) := by decide +kernel
theorem dX0_commit_100 : decode cX0_commit 100 = .ok (.if_icmp .ne 7, 3) := by decide +kernel
theorem dX0_commit_103 : decode cX0_commit 103 = .ok (.iconst 1, 1) := by decide +kernel
theorem dX0_commit_104 : decode cX0_commit 104 = .ok (.goto 4, 3) := by decide +kernel
theorem dX0_commit_107 : decode cX0_commit 107 = .ok (.iconst 0, 1) := by decide +kernel
theorem dX0_commit_108 : decode cX0_commit 108 = .ok (.putfield 26, 3) := by decide +kernel
theorem dX0_commit_111 : decode cX0_commit 111 = .ok (.aload_n 0, 1) := by decide +kernel
theorem dX0_commit_112 : decode cX0_commit 112 = .ok (.getfield 26, 3) := by decide +kernel
theorem dX0_commit_115 : decode cX0_commit 115 = .ok (.ifCond .eq 8, 3) := by decide +kernel
theorem dX0_commit_118 : decode cX0_commit 118 = .ok (.aload_n 0, 1) := by decide +kernel
theorem dX0_commit_119 : decode cX0_commit 119 = .ok (.iconst 0, 1) := by decide +kernel
theorem dX0_commit_120 : decode cX0_commit 120 = .ok (.putfield 30, 3) := by decide +kernel
theorem dX0_commit_123 : decode cX0_commit 123 = .ok (.aload_n 0, 1) := by decide +kernel
theorem dX0_commit_124 : decode cX0_commit 124 = .ok (.getfield 26, 3) := by decide +kernel
theorem dX0_commit_127 : decode cX0_commit 127 = .ok (.ireturn, 1) := by decide +kernel
set_option maxRecDepth 20000 in
theorem ggX0_revert_X0_takeWorkFromDisk : GoodIn wsX0_revert wsX0_takeWorkFromDisk := goodIn_r _ [6, 7, 8, 9, 10, 11, 12, 13, 14, 15, 5, 16, 17, 18, 19, 20, 21, 22, 23, 24, 25, 26, 27] (by decide +kernel) (by decide +kernel)
set_option maxRecDepth 20000 in
theorem gX0_revert_X0_takeWorkFromDisk : GoodIn wsX0_revert (wsV RX0 67 RX0 yX0_takeWorkFromDisk wsX0_takeWorkFromDisk) := goodIn_app (goodIn_of _ (by decide +kernel)) ggX0_revert_X0_takeWorkFromDisk
theorem dX0_revert_0 : decode cX0_revert 0 = .ok (.aload_n 0, 1) := by decide +kernel
theorem dX0_revert_1 : decode cX0_revert 1 = .ok (.getfield 26, 3) := by decide +kernel
theorem dX0_revert_4 : decode cX0_revert 4 = .ok (.ifCond .ne 5, 3) := by decide +kernel
theorem dX0_revert_7 : decode cX0_revert 7 = .ok (.iconst 0, 1) := by decide +kernel
theorem dX0_revert_8 : decode cX0_revert 8 = .ok (.ireturn, 1) := by decide +kernel
theorem dX0_revert_9 : decode cX0_revert 9 = .ok (.aload_n 0, 1) := by decide +kernel
theorem dX0_revert_10 : decode cX0_revert 10 = .ok (.invokevirtual 67, 3) := by decide +kernel
theorem dX0_revert_13 : decode cX0_revert 13 = .ok (.iconst 1, 1) := by decide +kernel
theorem dX0_revert_14 : decode cX0_revert 14 = .ok (.ireturn, 1) := by decide +kernel
theorem dX0_cut_0 : decode cX0_cut 0 = .ok (.aload_n 0, 1) := by decide +kernel
theorem dX0_cut_1 : decode cX0_cut 1 = .ok (.getfield 26, 3) := by decide +kernel
theorem dX0_cut_4 : decode cX0_cut 4 = .ok (.ifCond .eq 26, 3) := by decide +kernel
theorem dX0_cut_7 : decode cX0_cut 7 = .ok (.iload_n 1, 1) := by decide +kernel
theorem dX0_cut_8 : decode cX0_cut 8 = .ok (.iconst 1, 1) := by decide +kernel
theorem dX0_cut_9 : decode cX0_cut 9 = .ok (.if_icmp .lt 21, 3) := by decide +kernel
theorem dX0_cut_12 : decode cX0_cut 12 = .ok (.iload_n 1, 1) := by decide +kernel
theorem dX0_cut_13 : decode cX0_cut 13 = .ok (.sipush 1000, 3) := by decide +kernel
theorem dX0_cut_16 : decode cX0_cut 16 = .ok (.if_icmp .gt 14, 3) := by decide +kernel
theorem dX0_cut_19 : decode cX0_cut 19 = .ok (.iload_n 2, 1) := by decide +kernel
theorem dX0_cut_20 : decode cX0_cut 20 = .ok (.ifCond .lt 10, 3) := by decide +kernel
theorem dX0_cut_23 : decode cX0_cut 23 = .ok (.iload_n 2, 1) := by decide +kernel
theorem dX0_cut_24 : decode cX0_cut 24 = .ok (.sipush 1000, 3) := by decide +kernel
theorem dX0_cut_27 : decode cX0_cut 27 = .ok (.if_icmp .lt 5, 3) := by decide +kernel
theorem dX0_cut_30 : decode cX0_cut 30 = .ok (.iconst 0, 1) := by decide +kernel
theorem dX0_cut_31 : decode cX0_cut 31 = .ok (.ireturn, 1) := by decide +kernel
theorem dX0_cut_32 : decode cX0_cut 32 = .ok (.aload_n 0, 1) := by decide +kernel
theorem dX0_cut_33 : decode cX0_cut 33 = .ok (.iload_n 1, 1) := by decide +kernel
theorem dX0_cut_34 : decode cX0_cut 34 = .ok (.putfield 37, 3) := by decide +kernel
theorem dX0_cut_37 : decode cX0_cut 37 = .ok (.aload_n 0, 1) := by decide +kernel
theorem dX0_cut_38 : decode cX0_cut 38 = .ok (.iload_n 2, 1) := by decide +kernel
theorem dX0_cut_39 : decode cX0_cut 39 = .ok (.putfield 40, 3) := by decide +kernel
theorem dX0_cut_42 : decode cX0_cut 42 = .ok (.iconst 1, 1) := by decide +kernel
theorem dX0_cut_43 : decode cX0_cut 43 = .ok (.ireturn, 1) := by decide +kernel
set_option maxRecDepth 20000 in
theorem ggX0_start_X0_bringLogToDisk : GoodIn wsX0_start wsX0_bringLogToDisk := goodIn_r _ [8, 9, 10, 11, 12, 13, 7, 14, 15, 16, 17, 18, 29, 30, 31, 32, 33, 34, 35, 36, 37, 38] (by decide +kernel) (by decide +kernel)
set_option maxRecDepth 20000 in
theorem gX0_start_X0_bringLogToDisk : GoodIn wsX0_start (wsV RX0 64 RX0 yX0_bringLogToDisk wsX0_bringLogToDisk) := goodIn_app (goodIn_of _ (by decide +kernel)) ggX0_start_X0_bringLogToDisk
set_option maxRecDepth 20000 in
theorem ggX0_start_X0_takeWorkFromDisk : GoodIn wsX0_start wsX0_takeWorkFromDisk := goodIn_r _ [22, 11, 23, 15, 16, 17, 18, 24, 25, 26, 7, 27, 28, 29, 30, 31, 32, 33, 34, 35, 36, 37, 38] (by decide +kernel) (by decide +kernel)
set_option maxRecDepth 20000 in
theorem gX0_start_X0_takeWorkFromDisk : GoodIn wsX0_start (wsV RX0 67 RX0 yX0_takeWorkFromDisk wsX0_takeWorkFromDisk) := goodIn_app (goodIn_of _ (by decide +kernel)) ggX0_start_X0_takeWorkFromDisk
theorem dX0_start_0 : decode cX0_start 0 = .ok (.aload_n 0, 1) := by decide +kernel
theorem dX0_start_1 : decode cX0_start 1 = .ok (.getfield 26, 3) := by decide +kernel
theorem dX0_start_4 : decode cX0_start 4 = .ok (.ifCond .ne 14, 3) := by decide +kernel
theorem dX0_start_7 : decode cX0_start 7 = .ok (.iload_n 1, 1) := by decide +kernel
theorem dX0_start_8 : decode cX0_start 8 = .ok (.ifCond .lt 10, 3) := by decide +kernel
theorem dX0_start_11 : decode cX0_start 11 = .ok (.iload_n 1, 1) := by decide +kernel
theorem dX0_start_12 : decode cX0_start 12 = .ok (.sipush 1000, 3) := by decide +kernel
theorem dX0_start_15 : decode cX0_start 15 = .ok (.if_icmp .le 5, 3) := by decide +kernel
theorem dX0_start_18 : decode cX0_start 18 = .ok (.iconst 0, 1) := by decide +kernel
theorem dX0_start_19 : decode cX0_start 19 = .ok (.ireturn, 1) := by decide +kernel
theorem dX0_start_20 : decode cX0_start 20 = .ok (.aload_n 0, 1) := by decide +kernel
theorem dX0_start_21 : decode cX0_start 21 = .ok (.getfield 30, 3) := by decide +kernel
theorem dX0_start_24 : decode cX0_start 24 = .ok (.ifCond .eq 17, 3) := by decide +kernel
theorem dX0_start_27 : decode cX0_start 27 = .ok (.aload_n 0, 1) := by decide +kernel
theorem dX0_start_28 : decode cX0_start 28 = .ok (.aload_n 0, 1) := by decide +kernel
theorem dX0_start_29 : decode cX0_start 29 = .ok (.getfield 33, 3) := by decide +kernel
theorem dX0_start_32 : decode cX0_start 32 = .ok (.iload_n 1, 1) := by decide +kernel
theorem dX0_start_33 : decode cX0_start 33 = .ok (.imul, 1) := by decide +kernel
theorem dX0_start_34 : decode cX0_start 34 = .ok (.sipush 1000, 3) := by decide +kernel
theorem dX0_start_37 : decode cX0_start 37 = .ok (.idiv, 1) := by decide +kernel
theorem dX0_start_38 : decode cX0_start 38 = .ok (.invokevirtual 64, 3) := by decide +kernel
theorem dX0_start_41 : decode cX0_start 41 = .ok (.iload_n 1, 1) := by decide +kernel
theorem dX0_start_42 : decode cX0_start 42 = .ok (.sipush 1000, 3) := by decide +kernel
theorem dX0_start_45 : decode cX0_start 45 = .ok (.if_icmp .ge 5, 3) := by decide +kernel
theorem dX0_start_48 : decode cX0_start 48 = .ok (.iconst 0, 1) := by decide +kernel
theorem dX0_start_49 : decode cX0_start 49 = .ok (.ireturn, 1) := by decide +kernel
theorem dX0_start_50 : decode cX0_start 50 = .ok (.aload_n 0, 1) := by decide +kernel
theorem dX0_start_51 : decode cX0_start 51 = .ok (.iconst 0, 1) := by decide +kernel
theorem dX0_start_52 : decode cX0_start 52 = .ok (.putfield 30, 3) := by decide +kernel
theorem dX0_start_55 : decode cX0_start 55 = .ok (.aload_n 0, 1) := by decide +kernel
theorem dX0_start_56 : decode cX0_start 56 = .ok (.iconst 1, 1) := by decide +kernel
theorem dX0_start_57 : decode cX0_start 57 = .ok (.putfield 26, 3) := by decide +kernel
theorem dX0_start_60 : decode cX0_start 60 = .ok (.aload_n 0, 1) := by decide +kernel
theorem dX0_start_61 : decode cX0_start 61 = .ok (.invokevirtual 67, 3) := by decide +kernel
theorem dX0_start_64 : decode cX0_start 64 = .ok (.iconst 1, 1) := by decide +kernel
theorem dX0_start_65 : decode cX0_start 65 = .ok (.ireturn, 1) := by decide +kernel
theorem dX0_state_0 : decode cX0_state 0 = .ok (.iload_n 1, 1) := by decide +kernel
theorem dX0_state_1 : decode cX0_state 1 = .ok (.tableswitch 58 0 2 #[27, 40, 53], 27) := by decide +kernel
theorem dX0_state_28 : decode cX0_state 28 = .ok (.aload_n 0, 1) := by decide +kernel
theorem dX0_state_29 : decode cX0_state 29 = .ok (.getfield 26, 3) := by decide +kernel
theorem dX0_state_32 : decode cX0_state 32 = .ok (.ifCond .eq 7, 3) := by decide +kernel
theorem dX0_state_35 : decode cX0_state 35 = .ok (.iconst 1, 1) := by decide +kernel
theorem dX0_state_36 : decode cX0_state 36 = .ok (.goto 4, 3) := by decide +kernel
theorem dX0_state_39 : decode cX0_state 39 = .ok (.iconst 0, 1) := by decide +kernel
theorem dX0_state_40 : decode cX0_state 40 = .ok (.ireturn, 1) := by decide +kernel
theorem dX0_state_41 : decode cX0_state 41 = .ok (.aload_n 0, 1) := by decide +kernel
theorem dX0_state_42 : decode cX0_state 42 = .ok (.getfield 30, 3) := by decide +kernel
theorem dX0_state_45 : decode cX0_state 45 = .ok (.ifCond .eq 7, 3) := by decide +kernel
theorem dX0_state_48 : decode cX0_state 48 = .ok (.iconst 1, 1) := by decide +kernel
theorem dX0_state_49 : decode cX0_state 49 = .ok (.goto 4, 3) := by decide +kernel
theorem dX0_state_52 : decode cX0_state 52 = .ok (.iconst 0, 1) := by decide +kernel
theorem dX0_state_53 : decode cX0_state 53 = .ok (.ireturn, 1) := by decide +kernel
theorem dX0_state_54 : decode cX0_state 54 = .ok (.aload_n 0, 1) := by decide +kernel
theorem dX0_state_55 : decode cX0_state 55 = .ok (.getfield 33, 3) := by decide +kernel
theorem dX0_state_58 : decode cX0_state 58 = .ok (.ireturn, 1) := by decide +kernel
theorem dX0_state_59 : decode cX0_state 59 = .ok (.iconst (-1), 1) := by decide +kernel
theorem dX0_state_60 : decode cX0_state 60 = .ok (.ireturn, 1) := by decide +kernel
theorem dX0_isBlock_0 : decode cX0_isBlock 0 = .ok (.iload_n 0, 1) := by decide +kernel
theorem dX0_isBlock_1 : decode cX0_isBlock 1 = .ok (.ifCond .lt 13, 3) := by decide +kernel
theorem dX0_isBlock_4 : decode cX0_isBlock 4 = .ok (.iload_n 0, 1) := by decide +kernel
theorem dX0_isBlock_5 : decode cX0_isBlock 5 = .ok (.bipush 24, 2) := by decide +kernel
theorem dX0_isBlock_7 : decode cX0_isBlock 7 = .ok (.if_icmp .ge 7, 3) := by decide +kernel
theorem dX0_isBlock_10 : decode cX0_isBlock 10 = .ok (.iconst 1, 1) := by decide +kernel
theorem dX0_isBlock_11 : decode cX0_isBlock 11 = .ok (.goto 4, 3) := by decide +kernel
theorem dX0_isBlock_14 : decode cX0_isBlock 14 = .ok (.iconst 0, 1) := by decide +kernel
theorem dX0_isBlock_15 : decode cX0_isBlock 15 = .ok (.ireturn, 1) := by decide +kernel
theorem dX0_isPlace_0 : decode cX0_isPlace 0 = .ok (.iload_n 0, 1) := by decide +kernel
theorem dX0_isPlace_1 : decode cX0_isPlace 1 = .ok (.ifCond .lt 13, 3) := by decide +kernel
theorem dX0_isPlace_4 : decode cX0_isPlace 4 = .ok (.iload_n 0, 1) := by decide +kernel
theorem dX0_isPlace_5 : decode cX0_isPlace 5 = .ok (.bipush 16, 2) := by decide +kernel
theorem dX0_isPlace_7 : decode cX0_isPlace 7 = .ok (.if_icmp .ge 7, 3) := by decide +kernel
theorem dX0_isPlace_10 : decode cX0_isPlace 10 = .ok (.iconst 1, 1) := by decide +kernel
theorem dX0_isPlace_11 : decode cX0_isPlace 11 = .ok (.goto 4, 3) := by decide +kernel
theorem dX0_isPlace_14 : decode cX0_isPlace 14 = .ok (.iconst 0, 1) := by decide +kernel
theorem dX0_isPlace_15 : decode cX0_isPlace 15 = .ok (.ireturn, 1) := by decide +kernel
theorem dX0_takeShareOfThisCommit_0 : decode cX0_takeShareOfThisCommit 0 = .ok (.aload_n 0, 1) := by decide +kernel
theorem dX0_takeShareOfThisCommit_1 : decode cX0_takeShareOfThisCommit 1 = .ok (.getfield 37, 3) := by decide +kernel
theorem dX0_takeShareOfThisCommit_4 : decode cX0_takeShareOfThisCommit 4 = .ok (.ifCond .ne 7, 3) := by decide +kernel
theorem dX0_takeShareOfThisCommit_7 : decode cX0_takeShareOfThisCommit 7 = .ok (.sipush 1000, 3) := by decide +kernel
theorem dX0_takeShareOfThisCommit_10 : decode cX0_takeShareOfThisCommit 10 = .ok (.ireturn, 1) := by decide +kernel
theorem dX0_takeShareOfThisCommit_11 : decode cX0_takeShareOfThisCommit 11 = .ok (.aload_n 0, 1) := by decide +kernel
theorem dX0_takeShareOfThisCommit_12 : decode cX0_takeShareOfThisCommit 12 = .ok (.dup, 1) := by decide +kernel
theorem dX0_takeShareOfThisCommit_13 : decode cX0_takeShareOfThisCommit 13 = .ok (.getfield 37, 3) := by decide +kernel
theorem dX0_takeShareOfThisCommit_16 : decode cX0_takeShareOfThisCommit 16 = .ok (.iconst 1, 1) := by decide +kernel
theorem dX0_takeShareOfThisCommit_17 : decode cX0_takeShareOfThisCommit 17 = .ok (.isub, 1) := by decide +kernel
theorem dX0_takeShareOfThisCommit_18 : decode cX0_takeShareOfThisCommit 18 = .ok (.putfield 37, 3) := by decide +kernel
theorem dX0_takeShareOfThisCommit_21 : decode cX0_takeShareOfThisCommit 21 = .ok (.aload_n 0, 1) := by decide +kernel
theorem dX0_takeShareOfThisCommit_22 : decode cX0_takeShareOfThisCommit 22 = .ok (.getfield 37, 3) := by decide +kernel
theorem dX0_takeShareOfThisCommit_25 : decode cX0_takeShareOfThisCommit 25 = .ok (.ifCond .ne 10, 3) := by decide +kernel
theorem dX0_takeShareOfThisCommit_28 : decode cX0_takeShareOfThisCommit 28 = .ok (.aload_n 0, 1) := by decide +kernel
theorem dX0_takeShareOfThisCommit_29 : decode cX0_takeShareOfThisCommit 29 = .ok (.getfield 40, 3) := by decide +kernel
theorem dX0_takeShareOfThisCommit_32 : decode cX0_takeShareOfThisCommit 32 = .ok (.goto 6, 3) := by decide +kernel
theorem dX0_takeShareOfThisCommit_35 : decode cX0_takeShareOfThisCommit 35 = .ok (.sipush 1000, 3) := by decide +kernel
theorem dX0_takeShareOfThisCommit_38 : decode cX0_takeShareOfThisCommit 38 = .ok (.ireturn, 1) := by decide +kernel
theorem dX0_countWritten_0 : decode cX0_countWritten 0 = .ok (.iconst 0, 1) := by decide +kernel
theorem dX0_countWritten_1 : decode cX0_countWritten 1 = .ok (.istore_n 1, 1) := by decide +kernel
theorem dX0_countWritten_2 : decode cX0_countWritten 2 = .ok (.iconst 0, 1) := by decide +kernel
theorem dX0_countWritten_3 : decode cX0_countWritten 3 = .ok (.istore_n 2, 1) := by decide +kernel
theorem dX0_countWritten_4 : decode cX0_countWritten 4 = .ok (.iload_n 2, 1) := by decide +kernel
theorem dX0_countWritten_5 : decode cX0_countWritten 5 = .ok (.bipush 24, 2) := by decide +kernel
theorem dX0_countWritten_7 : decode cX0_countWritten 7 = .ok (.if_icmp .ge 21, 3) := by decide +kernel
theorem dX0_countWritten_10 : decode cX0_countWritten 10 = .ok (.aload_n 0, 1) := by decide +kernel
theorem dX0_countWritten_11 : decode cX0_countWritten 11 = .ok (.getfield 19, 3) := by decide +kernel
theorem dX0_countWritten_14 : decode cX0_countWritten 14 = .ok (.iload_n 2, 1) := by decide +kernel
theorem dX0_countWritten_15 : decode cX0_countWritten 15 = .ok (.baload, 1) := by decide +kernel
theorem dX0_countWritten_16 : decode cX0_countWritten 16 = .ok (.ifCond .eq 6, 3) := by decide +kernel
theorem dX0_countWritten_19 : decode cX0_countWritten 19 = .ok (.iinc 1 1, 3) := by decide +kernel
theorem dX0_countWritten_22 : decode cX0_countWritten 22 = .ok (.iinc 2 1, 3) := by decide +kernel
theorem dX0_countWritten_25 : decode cX0_countWritten 25 = .ok (.goto (-21), 3) := by decide +kernel
theorem dX0_countWritten_28 : decode cX0_countWritten 28 = .ok (.iload_n 1, 1) := by decide +kernel
theorem dX0_countWritten_29 : decode cX0_countWritten 29 = .ok (.ireturn, 1) := by decide +kernel
set_option maxRecDepth 20000 in
theorem ggX0_bringToLog_X0_copyBlock : GoodIn wsX0_bringToLog wsX0_copyBlock := goodIn_r _ [8, 9, 10, 11, 12] (by decide +kernel) (by decide +kernel)
set_option maxRecDepth 20000 in
theorem gX0_bringToLog_X0_copyBlock : GoodIn wsX0_bringToLog (va_wsS RX0 70 yX0_copyBlock wsX0_copyBlock) := goodIn_app (goodIn_of _ (by decide +kernel)) ggX0_bringToLog_X0_copyBlock
theorem dX0_bringToLog_0 : decode cX0_bringToLog 0 = .ok (.iconst 0, 1) := by decide +kernel
theorem dX0_bringToLog_1 : decode cX0_bringToLog 1 = .ok (.istore_n 2, 1) := by decide +kernel
theorem dX0_bringToLog_2 : decode cX0_bringToLog 2 = .ok (.iconst 0, 1) := by decide +kernel
theorem dX0_bringToLog_3 : decode cX0_bringToLog 3 = .ok (.istore_n 3, 1) := by decide +kernel
theorem dX0_bringToLog_4 : decode cX0_bringToLog 4 = .ok (.iload_n 3, 1) := by decide +kernel
theorem dX0_bringToLog_5 : decode cX0_bringToLog 5 = .ok (.bipush 24, 2) := by decide +kernel
theorem dX0_bringToLog_7 : decode cX0_bringToLog 7 = .ok (.if_icmp .ge 58, 3) := by decide +kernel
theorem dX0_bringToLog_10 : decode cX0_bringToLog 10 = .ok (.aload_n 0, 1) := by decide +kernel
theorem dX0_bringToLog_11 : decode cX0_bringToLog 11 = .ok (.getfield 23, 3) := by decide +kernel
theorem dX0_bringToLog_14 : decode cX0_bringToLog 14 = .ok (.iload_n 3, 1) := by decide +kernel
theorem dX0_bringToLog_15 : decode cX0_bringToLog 15 = .ok (.aload_n 0, 1) := by decide +kernel
theorem dX0_bringToLog_16 : decode cX0_bringToLog 16 = .ok (.getfield 19, 3) := by decide +kernel
theorem dX0_bringToLog_19 : decode cX0_bringToLog 19 = .ok (.iload_n 3, 1) := by decide +kernel
theorem dX0_bringToLog_20 : decode cX0_bringToLog 20 = .ok (.baload, 1) := by decide +kernel
theorem dX0_bringToLog_21 : decode cX0_bringToLog 21 = .ok (.ifCond .eq 12, 3) := by decide +kernel
theorem dX0_bringToLog_24 : decode cX0_bringToLog 24 = .ok (.iload_n 2, 1) := by decide +kernel
theorem dX0_bringToLog_25 : decode cX0_bringToLog 25 = .ok (.iload_n 1, 1) := by decide +kernel
theorem dX0_bringToLog_26 : decode cX0_bringToLog 26 = .ok (.if_icmp .ge 7, 3) := by decide +kernel
theorem dX0_bringToLog_29 : decode cX0_bringToLog 29 = .ok (.iconst 1, 1) := by decide +kernel
theorem dX0_bringToLog_30 : decode cX0_bringToLog 30 = .ok (.goto 4, 3) := by decide +kernel
theorem dX0_bringToLog_33 : decode cX0_bringToLog 33 = .ok (.iconst 0, 1) := by decide +kernel
theorem dX0_bringToLog_34 : decode cX0_bringToLog 34 = .ok (.bastore, 1) := by decide +kernel
theorem dX0_bringToLog_35 : decode cX0_bringToLog 35 = .ok (.aload_n 0, 1) := by decide +kernel
theorem dX0_bringToLog_36 : decode cX0_bringToLog 36 = .ok (.getfield 23, 3) := by decide +kernel
theorem dX0_bringToLog_39 : decode cX0_bringToLog 39 = .ok (.iload_n 3, 1) := by decide +kernel
theorem dX0_bringToLog_40 : decode cX0_bringToLog 40 = .ok (.baload, 1) := by decide +kernel
theorem dX0_bringToLog_41 : decode cX0_bringToLog 41 = .ok (.ifCond .eq 18, 3) := by decide +kernel
theorem dX0_bringToLog_44 : decode cX0_bringToLog 44 = .ok (.aload_n 0, 1) := by decide +kernel
theorem dX0_bringToLog_45 : decode cX0_bringToLog 45 = .ok (.getfield 9, 3) := by decide +kernel
theorem dX0_bringToLog_48 : decode cX0_bringToLog 48 = .ok (.aload_n 0, 1) := by decide +kernel
theorem dX0_bringToLog_49 : decode cX0_bringToLog 49 = .ok (.getfield 16, 3) := by decide +kernel
theorem dX0_bringToLog_52 : decode cX0_bringToLog 52 = .ok (.iload_n 3, 1) := by decide +kernel
theorem dX0_bringToLog_53 : decode cX0_bringToLog 53 = .ok (.invokestatic 70, 3) := by decide +kernel
theorem dX0_bringToLog_56 : decode cX0_bringToLog 56 = .ok (.iinc 2 1, 3) := by decide +kernel
theorem dX0_bringToLog_59 : decode cX0_bringToLog 59 = .ok (.iinc 3 1, 3) := by decide +kernel
theorem dX0_bringToLog_62 : decode cX0_bringToLog 62 = .ok (.goto (-58), 3) := by decide +kernel
theorem dX0_bringToLog_65 : decode cX0_bringToLog 65 = .ok (.return_, 1) := by decide +kernel
set_option maxRecDepth 20000 in
theorem ggX0_bringLogToDisk_X0_copyBlock : GoodIn wsX0_bringLogToDisk wsX0_copyBlock := goodIn_r _ [7, 8, 9, 10, 11] (by decide +kernel) (by decide +kernel)
set_option maxRecDepth 20000 in
theorem gX0_bringLogToDisk_X0_copyBlock : GoodIn wsX0_bringLogToDisk (va_wsS RX0 70 yX0_copyBlock wsX0_copyBlock) := goodIn_app (goodIn_of _ (by decide +kernel)) ggX0_bringLogToDisk_X0_copyBlock
theorem dX0_bringLogToDisk_0 : decode cX0_bringLogToDisk 0 = .ok (.iconst 0, 1) := by decide +kernel
theorem dX0_bringLogToDisk_1 : decode cX0_bringLogToDisk 1 = .ok (.istore_n 2, 1) := by decide +kernel
theorem dX0_bringLogToDisk_2 : decode cX0_bringLogToDisk 2 = .ok (.iconst 0, 1) := by decide +kernel
theorem dX0_bringLogToDisk_3 : decode cX0_bringLogToDisk 3 = .ok (.istore_n 3, 1) := by decide +kernel
theorem dX0_bringLogToDisk_4 : decode cX0_bringLogToDisk 4 = .ok (.iload_n 3, 1) := by decide +kernel
theorem dX0_bringLogToDisk_5 : decode cX0_bringLogToDisk 5 = .ok (.bipush 24, 2) := by decide +kernel
theorem dX0_bringLogToDisk_7 : decode cX0_bringLogToDisk 7 = .ok (.if_icmp .ge 38, 3) := by decide +kernel
theorem dX0_bringLogToDisk_10 : decode cX0_bringLogToDisk 10 = .ok (.iload_n 2, 1) := by decide +kernel
theorem dX0_bringLogToDisk_11 : decode cX0_bringLogToDisk 11 = .ok (.iload_n 1, 1) := by decide +kernel
theorem dX0_bringLogToDisk_12 : decode cX0_bringLogToDisk 12 = .ok (.if_icmp .ge 33, 3) := by decide +kernel
theorem dX0_bringLogToDisk_15 : decode cX0_bringLogToDisk 15 = .ok (.aload_n 0, 1) := by decide +kernel
theorem dX0_bringLogToDisk_16 : decode cX0_bringLogToDisk 16 = .ok (.getfield 23, 3) := by decide +kernel
theorem dX0_bringLogToDisk_19 : decode cX0_bringLogToDisk 19 = .ok (.iload_n 3, 1) := by decide +kernel
theorem dX0_bringLogToDisk_20 : decode cX0_bringLogToDisk 20 = .ok (.baload, 1) := by decide +kernel
theorem dX0_bringLogToDisk_21 : decode cX0_bringLogToDisk 21 = .ok (.ifCond .eq 18, 3) := by decide +kernel
theorem dX0_bringLogToDisk_24 : decode cX0_bringLogToDisk 24 = .ok (.aload_n 0, 1) := by decide +kernel
theorem dX0_bringLogToDisk_25 : decode cX0_bringLogToDisk 25 = .ok (.getfield 16, 3) := by decide +kernel
theorem dX0_bringLogToDisk_28 : decode cX0_bringLogToDisk 28 = .ok (.aload_n 0, 1) := by decide +kernel
theorem dX0_bringLogToDisk_29 : decode cX0_bringLogToDisk 29 = .ok (.getfield 13, 3) := by decide +kernel
theorem dX0_bringLogToDisk_32 : decode cX0_bringLogToDisk 32 = .ok (.iload_n 3, 1) := by decide +kernel
theorem dX0_bringLogToDisk_33 : decode cX0_bringLogToDisk 33 = .ok (.invokestatic 70, 3) := by decide +kernel
theorem dX0_bringLogToDisk_36 : decode cX0_bringLogToDisk 36 = .ok (.iinc 2 1, 3) := by decide +kernel
theorem dX0_bringLogToDisk_39 : decode cX0_bringLogToDisk 39 = .ok (.iinc 3 1, 3) := by decide +kernel
theorem dX0_bringLogToDisk_42 : decode cX0_bringLogToDisk 42 = .ok (.goto (-38), 3) := by decide +kernel
theorem dX0_bringLogToDisk_45 : decode cX0_bringLogToDisk 45 = .ok (.return_, 1) := by decide +kernel
set_option maxRecDepth 20000 in
theorem ggX0_takeWorkFromDisk_X0_clearWritten : GoodIn wsX0_takeWorkFromDisk wsX0_clearWritten := goodIn_r _ [11, 12, 13, 14, 15, 16, 17, 18, 19, 20, 21, 22] (by decide +kernel) (by decide +kernel)
set_option maxRecDepth 20000 in
theorem gX0_takeWorkFromDisk_X0_clearWritten : GoodIn wsX0_takeWorkFromDisk (wsV RX0 61 RX0 yX0_clearWritten wsX0_clearWritten) := goodIn_app (goodIn_of _ (by decide +kernel)) ggX0_takeWorkFromDisk_X0_clearWritten
theorem dX0_takeWorkFromDisk_0 : decode cX0_takeWorkFromDisk 0 = .ok (.aload_n 0, 1) := by decide +kernel
theorem dX0_takeWorkFromDisk_1 : decode cX0_takeWorkFromDisk 1 = .ok (.getfield 13, 3) := by decide +kernel
theorem dX0_takeWorkFromDisk_4 : decode cX0_takeWorkFromDisk 4 = .ok (.iconst 0, 1) := by decide +kernel
theorem dX0_takeWorkFromDisk_5 : decode cX0_takeWorkFromDisk 5 = .ok (.aload_n 0, 1) := by decide +kernel
theorem dX0_takeWorkFromDisk_6 : decode cX0_takeWorkFromDisk 6 = .ok (.getfield 9, 3) := by decide +kernel
theorem dX0_takeWorkFromDisk_9 : decode cX0_takeWorkFromDisk 9 = .ok (.iconst 0, 1) := by decide +kernel
theorem dX0_takeWorkFromDisk_10 : decode cX0_takeWorkFromDisk 10 = .ok (.sipush 384, 3) := by decide +kernel
theorem dX0_takeWorkFromDisk_13 : decode cX0_takeWorkFromDisk 13 = .ok (.invokestatic 74, 3) := by decide +kernel
theorem dX0_takeWorkFromDisk_16 : decode cX0_takeWorkFromDisk 16 = .ok (.aload_n 0, 1) := by decide +kernel
theorem dX0_takeWorkFromDisk_17 : decode cX0_takeWorkFromDisk 17 = .ok (.invokevirtual 61, 3) := by decide +kernel
theorem dX0_takeWorkFromDisk_20 : decode cX0_takeWorkFromDisk 20 = .ok (.return_, 1) := by decide +kernel
theorem dX0_clearWritten_0 : decode cX0_clearWritten 0 = .ok (.iconst 0, 1) := by decide +kernel
theorem dX0_clearWritten_1 : decode cX0_clearWritten 1 = .ok (.istore_n 1, 1) := by decide +kernel
theorem dX0_clearWritten_2 : decode cX0_clearWritten 2 = .ok (.iload_n 1, 1) := by decide +kernel
theorem dX0_clearWritten_3 : decode cX0_clearWritten 3 = .ok (.bipush 24, 2) := by decide +kernel
theorem dX0_clearWritten_5 : decode cX0_clearWritten 5 = .ok (.if_icmp .ge 16, 3) := by decide +kernel
theorem dX0_clearWritten_8 : decode cX0_clearWritten 8 = .ok (.aload_n 0, 1) := by decide +kernel
theorem dX0_clearWritten_9 : decode cX0_clearWritten 9 = .ok (.getfield 19, 3) := by decide +kernel
theorem dX0_clearWritten_12 : decode cX0_clearWritten 12 = .ok (.iload_n 1, 1) := by decide +kernel
theorem dX0_clearWritten_13 : decode cX0_clearWritten 13 = .ok (.iconst 0, 1) := by decide +kernel
theorem dX0_clearWritten_14 : decode cX0_clearWritten 14 = .ok (.bastore, 1) := by decide +kernel
theorem dX0_clearWritten_15 : decode cX0_clearWritten 15 = .ok (.iinc 1 1, 3) := by decide +kernel
theorem dX0_clearWritten_18 : decode cX0_clearWritten 18 = .ok (.goto (-16), 3) := by decide +kernel
theorem dX0_clearWritten_21 : decode cX0_clearWritten 21 = .ok (.return_, 1) := by decide +kernel
theorem dX0_copyBlock_0 : decode cX0_copyBlock 0 = .ok (.aload_n 0, 1) := by decide +kernel
theorem dX0_copyBlock_1 : decode cX0_copyBlock 1 = .ok (.iload_n 2, 1) := by decide +kernel
theorem dX0_copyBlock_2 : decode cX0_copyBlock 2 = .ok (.bipush 16, 2) := by decide +kernel
theorem dX0_copyBlock_4 : decode cX0_copyBlock 4 = .ok (.imul, 1) := by decide +kernel
theorem dX0_copyBlock_5 : decode cX0_copyBlock 5 = .ok (.aload_n 1, 1) := by decide +kernel
theorem dX0_copyBlock_6 : decode cX0_copyBlock 6 = .ok (.iload_n 2, 1) := by decide +kernel
theorem dX0_copyBlock_7 : decode cX0_copyBlock 7 = .ok (.bipush 16, 2) := by decide +kernel
theorem dX0_copyBlock_9 : decode cX0_copyBlock 9 = .ok (.imul, 1) := by decide +kernel
theorem dX0_copyBlock_10 : decode cX0_copyBlock 10 = .ok (.bipush 16, 2) := by decide +kernel
theorem dX0_copyBlock_12 : decode cX0_copyBlock 12 = .ok (.invokestatic 74, 3) := by decide +kernel
theorem dX0_copyBlock_15 : decode cX0_copyBlock 15 = .ok (.return_, 1) := by decide +kernel
theorem dX1_init_0 : decode cX1_init 0 = .ok (.aload_n 0, 1) := by decide +kernel
theorem dX1_init_1 : decode cX1_init 1 = .ok (.invokespecial 1, 3) := by decide +kernel
theorem dX1_init_4 : decode cX1_init 4 = .ok (.aload_n 0, 1) := by decide +kernel
theorem dX1_init_5 : decode cX1_init 5 = .ok (.sipush 384, 3) := by decide +kernel
theorem dX1_init_8 : decode cX1_init 8 = .ok (.newarray .byte, 2) := by decide +kernel
theorem dX1_init_10 : decode cX1_init 10 = .ok (.putfield 7, 3) := by decide +kernel
theorem dX1_init_13 : decode cX1_init 13 = .ok (.aload_n 0, 1) := by decide +kernel
theorem dX1_init_14 : decode cX1_init 14 = .ok (.sipush 384, 3) := by decide +kernel
theorem dX1_init_17 : decode cX1_init 17 = .ok (.newarray .byte, 2) := by decide +kernel
theorem dX1_init_19 : decode cX1_init 19 = .ok (.putfield 13, 3) := by decide +kernel
theorem dX1_init_22 : decode cX1_init 22 = .ok (.aload_n 0, 1) := by decide +kernel
theorem dX1_init_23 : decode cX1_init 23 = .ok (.sipush 384, 3) := by decide +kernel
theorem dX1_init_26 : decode cX1_init 26 = .ok (.newarray .byte, 2) := by decide +kernel
theorem dX1_init_28 : decode cX1_init 28 = .ok (.putfield 16, 3) := by decide +kernel
theorem dX1_init_31 : decode cX1_init 31 = .ok (.aload_n 0, 1) := by decide +kernel
theorem dX1_init_32 : decode cX1_init 32 = .ok (.bipush 24, 2) := by decide +kernel
theorem dX1_init_34 : decode cX1_init 34 = .ok (.newarray .boolean, 2) := by decide +kernel
theorem dX1_init_36 : decode cX1_init 36 = .ok (.putfield 19, 3) := by decide +kernel
theorem dX1_init_39 : decode cX1_init 39 = .ok (.aload_n 0, 1) := by decide +kernel
theorem dX1_init_40 : decode cX1_init 40 = .ok (.bipush 24, 2) := by decide +kernel
theorem dX1_init_42 : decode cX1_init 42 = .ok (.newarray .boolean, 2) := by decide +kernel
theorem dX1_init_44 : decode cX1_init 44 = .ok (.putfield 23, 3) := by decide +kernel
theorem dX1_init_47 : decode cX1_init 47 = .ok (.return_, 1) := by decide +kernel
theorem dX1_in_0 : decode cX1_in 0 = .ok (.iload_n 0, 1) := by decide +kernel
theorem dX1_in_1 : decode cX1_in 1 = .ok (.iload_n 1, 1) := by decide +kernel
theorem dX1_in_2 : decode cX1_in 2 = .ok (.if_icmp .lt 12, 3) := by decide +kernel
theorem dX1_in_5 : decode cX1_in 5 = .ok (.iload_n 0, 1) := by decide +kernel
theorem dX1_in_6 : decode cX1_in 6 = .ok (.iload_n 2, 1) := by decide +kernel
theorem dX1_in_7 : decode cX1_in 7 = .ok (.if_icmp .gt 7, 3) := by decide +kernel
theorem dX1_in_10 : decode cX1_in 10 = .ok (.iconst 1, 1) := by decide +kernel
theorem dX1_in_11 : decode cX1_in 11 = .ok (.goto 4, 3) := by decide +kernel
theorem dX1_in_14 : decode cX1_in 14 = .ok (.iconst 0, 1) := by decide +kernel
theorem dX1_in_15 : decode cX1_in 15 = .ok (.ireturn, 1) := by decide +kernel
set_option maxRecDepth 20000 in
theorem ggX1_isPlace_X1_in : GoodIn wsX1_isPlace wsX1_in := goodIn_r _ [4] (by decide +kernel) (by decide +kernel)
set_option maxRecDepth 20000 in
theorem gX1_isPlace_X1_in : GoodIn wsX1_isPlace (va_wsS RX1 26 yX1_in wsX1_in) := goodIn_app (goodIn_of _ (by decide +kernel)) ggX1_isPlace_X1_in
theorem dX1_isPlace_0 : decode cX1_isPlace 0 = .ok (.iload_n 0, 1) := by decide +kernel
theorem dX1_isPlace_1 : decode cX1_isPlace 1 = .ok (.iconst 0, 1) := by decide +kernel
theorem dX1_isPlace_2 : decode cX1_isPlace 2 = .ok (.bipush 23, 2) := by decide +kernel
theorem dX1_isPlace_4 : decode cX1_isPlace 4 = .ok (.invokestatic 26, 3) := by decide +kernel
theorem dX1_isPlace_7 : decode cX1_isPlace 7 = .ok (.ifCond .eq 17, 3) := by decide +kernel
theorem dX1_isPlace_10 : decode cX1_isPlace 10 = .ok (.iload_n 1, 1) := by decide +kernel
theorem dX1_isPlace_11 : decode cX1_isPlace 11 = .ok (.iconst 0, 1) := by decide +kernel
theorem dX1_isPlace_12 : decode cX1_isPlace 12 = .ok (.bipush 15, 2) := by decide +kernel
theorem dX1_isPlace_14 : decode cX1_isPlace 14 = .ok (.invokestatic 26, 3) := by decide +kernel
theorem dX1_isPlace_17 : decode cX1_isPlace 17 = .ok (.ifCond .eq 7, 3) := by decide +kernel
theorem dX1_isPlace_20 : decode cX1_isPlace 20 = .ok (.iconst 1, 1) := by decide +kernel
theorem dX1_isPlace_21 : decode cX1_isPlace 21 = .ok (.goto 4, 3) := by decide +kernel
theorem dX1_isPlace_24 : decode cX1_isPlace 24 = .ok (.iconst 0, 1) := by decide +kernel
theorem dX1_isPlace_25 : decode cX1_isPlace 25 = .ok (.ireturn, 1) := by decide +kernel
set_option maxRecDepth 20000 in
theorem ggX1_write_X1_isPlace : GoodIn wsX1_write wsX1_isPlace := goodIn_r _ [7, 8, 9, 6, 10] (by decide +kernel) (by decide +kernel)
set_option maxRecDepth 20000 in
theorem gX1_write_X1_isPlace : GoodIn wsX1_write (va_wsS RX1 34 yX1_isPlace wsX1_isPlace) := goodIn_app (goodIn_of _ (by decide +kernel)) ggX1_write_X1_isPlace
theorem dX1_write_0 : decode cX1_write 0 = .ok (.aload_n 0, 1) := by decide +kernel
theorem dX1_write_1 : decode cX1_write 1 = .ok (.getfield 30, 3) := by decide +kernel
theorem dX1_write_4 : decode cX1_write 4 = .ok (.ifCond .ne 11, 3) := by decide +kernel
theorem dX1_write_7 : decode cX1_write 7 = .ok (.iload_n 1, 1) := by decide +kernel
theorem dX1_write_8 : decode cX1_write 8 = .ok (.iload_n 2, 1) := by decide +kernel
theorem dX1_write_9 : decode cX1_write 9 = .ok (.invokestatic 34, 3) := by decide +kernel
theorem dX1_write_12 : decode cX1_write 12 = .ok (.ifCond .ne 5, 3) := by decide +kernel
theorem dX1_write_15 : decode cX1_write 15 = .ok (.iconst 0, 1) := by decide +kernel
theorem dX1_write_16 : decode cX1_write 16 = .ok (.ireturn, 1) := by decide +kernel
theorem dX1_write_17 : decode cX1_write 17 = .ok (.aload_n 0, 1) := by decide +kernel
theorem dX1_write_18 : decode cX1_write 18 = .ok (.getfield 7, 3) := by decide +kernel
theorem dX1_write_21 : decode cX1_write 21 = .ok (.bipush 16, 2) := by decide +kernel
theorem dX1_write_23 : decode cX1_write 23 = .ok (.iload_n 1, 1) := by decide +kernel
theorem dX1_write_24 : decode cX1_write 24 = .ok (.imul, 1) := by decide +kernel
theorem dX1_write_25 : decode cX1_write 25 = .ok (.iload_n 2, 1) := by decide +kernel
theorem dX1_write_26 : decode cX1_write 26 = .ok (.iadd, 1) := by decide +kernel
theorem dX1_write_27 : decode cX1_write 27 = .ok (.iload_n 3, 1) := by decide +kernel
theorem dX1_write_28 : decode cX1_write 28 = .ok (.i2b, 1) := by decide +kernel
theorem dX1_write_29 : decode cX1_write 29 = .ok (.bastore, 1) := by decide +kernel
theorem dX1_write_30 : decode cX1_write 30 = .ok (.aload_n 0, 1) := by decide +kernel
theorem dX1_write_31 : decode cX1_write 31 = .ok (.getfield 19, 3) := by decide +kernel
theorem dX1_write_34 : decode cX1_write 34 = .ok (.iload_n 1, 1) := by decide +kernel
theorem dX1_write_35 : decode cX1_write 35 = .ok (.iconst 1, 1) := by decide +kernel
theorem dX1_write_36 : decode cX1_write 36 = .ok (.bastore, 1) := by decide +kernel
theorem dX1_write_37 : decode cX1_write 37 = .ok (.iconst 1, 1) := by decide +kernel
theorem dX1_write_38 : decode cX1_write 38 = .ok (.ireturn, 1) := by decide +kernel
set_option maxRecDepth 20000 in
theorem ggX1_read_X1_isPlace : GoodIn wsX1_read wsX1_isPlace := goodIn_r _ [6, 7, 8, 5, 9] (by decide +kernel) (by decide +kernel)
set_option maxRecDepth 20000 in
theorem gX1_read_X1_isPlace : GoodIn wsX1_read (va_wsS RX1 34 yX1_isPlace wsX1_isPlace) := goodIn_app (goodIn_of _ (by decide +kernel)) ggX1_read_X1_isPlace
theorem dX1_read_0 : decode cX1_read 0 = .ok (.aload_n 0, 1) := by decide +kernel
theorem dX1_read_1 : decode cX1_read 1 = .ok (.getfield 30, 3) := by decide +kernel
theorem dX1_read_4 : decode cX1_read 4 = .ok (.ifCond .ne 11, 3) := by decide +kernel
theorem dX1_read_7 : decode cX1_read 7 = .ok (.iload_n 1, 1) := by decide +kernel
theorem dX1_read_8 : decode cX1_read 8 = .ok (.iload_n 2, 1) := by decide +kernel
theorem dX1_read_9 : decode cX1_read 9 = .ok (.invokestatic 34, 3) := by decide +kernel
theorem dX1_read_12 : decode cX1_read 12 = .ok (.ifCond .ne 7, 3) := by decide +kernel
theorem dX1_read_15 : decode cX1_read 15 = .ok (.iconst (-1), 1) := by decide +kernel
theorem dX1_read_16 : decode cX1_read 16 = .ok (.goto 18, 3) := by decide +kernel
theorem dX1_read_19 : decode cX1_read 19 = .ok (.aload_n 0, 1) := by decide +kernel
theorem dX1_read_20 : decode cX1_read 20 = .ok (.getfield 7, 3) := by decide +kernel
theorem dX1_read_23 : decode cX1_read 23 = .ok (.bipush 16, 2) := by decide +kernel
theorem dX1_read_25 : decode cX1_read 25 = .ok (.iload_n 1, 1) := by decide +kernel
theorem dX1_read_26 : decode cX1_read 26 = .ok (.imul, 1) := by decide +kernel
theorem dX1_read_27 : decode cX1_read 27 = .ok (.iload_n 2, 1) := by decide +kernel
theorem dX1_read_28 : decode cX1_read 28 = .ok (.iadd, 1) := by decide +kernel
theorem dX1_read_29 : decode cX1_read 29 = .ok (.baload, 1) := by decide +kernel
theorem dX1_read_30 : decode cX1_read 30 = .ok (.sipush 255, 3) := by decide +kernel
theorem dX1_read_33 : decode cX1_read 33 = .ok (.iand, 1) := by decide +kernel
theorem dX1_read_34 : decode cX1_read 34 = .ok (.ireturn, 1) := by decide +kernel
set_option maxRecDepth 20000 in
theorem ggX1_disk_X1_isPlace : GoodIn wsX1_disk wsX1_isPlace := goodIn_r _ [5, 6, 7, 4, 8] (by decide +kernel) (by decide +kernel)
set_option maxRecDepth 20000 in
theorem gX1_disk_X1_isPlace : GoodIn wsX1_disk (va_wsS RX1 34 yX1_isPlace wsX1_isPlace) := goodIn_app (goodIn_of _ (by decide +kernel)) ggX1_disk_X1_isPlace
theorem dX1_disk_0 : decode cX1_disk 0 = .ok (.iload_n 1, 1) := by decide +kernel
theorem dX1_disk_1 : decode cX1_disk 1 = .ok (.iload_n 2, 1) := by decide +kernel
theorem dX1_disk_2 : decode cX1_disk 2 = .ok (.invokestatic 34, 3) := by decide +kernel
theorem dX1_disk_5 : decode cX1_disk 5 = .ok (.ifCond .eq 21, 3) := by decide +kernel
theorem dX1_disk_8 : decode cX1_disk 8 = .ok (.aload_n 0, 1) := by decide +kernel
theorem dX1_disk_9 : decode cX1_disk 9 = .ok (.getfield 13, 3) := by decide +kernel
theorem dX1_disk_12 : decode cX1_disk 12 = .ok (.bipush 16, 2) := by decide +kernel
theorem dX1_disk_14 : decode cX1_disk 14 = .ok (.iload_n 1, 1) := by decide +kernel
theorem dX1_disk_15 : decode cX1_disk 15 = .ok (.imul, 1) := by decide +kernel
theorem dX1_disk_16 : decode cX1_disk 16 = .ok (.iload_n 2, 1) := by decide +kernel
theorem dX1_disk_17 : decode cX1_disk 17 = .ok (.iadd, 1) := by decide +kernel
theorem dX1_disk_18 : decode cX1_disk 18 = .ok (.baload, 1) := by decide +kernel
theorem dX1_disk_19 : decode cX1_disk 19 = .ok (.sipush 255, 3) := by decide +kernel
theorem dX1_disk_22 : decode cX1_disk 22 = .ok (.iand, 1) := by decide +kernel
theorem dX1_disk_23 : decode cX1_disk 23 = .ok (.goto 4, 3) := by decide +kernel
theorem dX1_disk_26 : decode cX1_disk 26 = .ok (.iconst (-1), 1) := by decide +kernel
theorem dX1_disk_27 : decode cX1_disk 27 = .ok (.ireturn, 1) := by decide +kernel
set_option maxRecDepth 20000 in
theorem ggX1_dirty_X1_in : GoodIn wsX1_dirty wsX1_in := goodIn_r _ [6] (by decide +kernel) (by decide +kernel)
set_option maxRecDepth 20000 in
theorem gX1_dirty_X1_in : GoodIn wsX1_dirty (va_wsS RX1 26 yX1_in wsX1_in) := goodIn_app (goodIn_of _ (by decide +kernel)) ggX1_dirty_X1_in
theorem dX1_dirty_0 : decode cX1_dirty 0 = .ok (.aload_n 0, 1) := by decide +kernel
theorem dX1_dirty_1 : decode cX1_dirty 1 = .ok (.getfield 30, 3) := by decide +kernel
theorem dX1_dirty_4 : decode cX1_dirty 4 = .ok (.ifCond .ne 26, 3) := by decide +kernel
theorem dX1_dirty_7 : decode cX1_dirty 7 = .ok (.iload_n 1, 1) := by decide +kernel
theorem dX1_dirty_8 : decode cX1_dirty 8 = .ok (.iconst 0, 1) := by decide +kernel
theorem dX1_dirty_9 : decode cX1_dirty 9 = .ok (.bipush 23, 2) := by decide +kernel
theorem dX1_dirty_11 : decode cX1_dirty 11 = .ok (.invokestatic 26, 3) := by decide +kernel
theorem dX1_dirty_14 : decode cX1_dirty 14 = .ok (.ifCond .eq 16, 3) := by decide +kernel
theorem dX1_dirty_17 : decode cX1_dirty 17 = .ok (.aload_n 0, 1) := by decide +kernel
theorem dX1_dirty_18 : decode cX1_dirty 18 = .ok (.getfield 19, 3) := by decide +kernel
theorem dX1_dirty_21 : decode cX1_dirty 21 = .ok (.iload_n 1, 1) := by decide +kernel
theorem dX1_dirty_22 : decode cX1_dirty 22 = .ok (.baload, 1) := by decide +kernel
theorem dX1_dirty_23 : decode cX1_dirty 23 = .ok (.ifCond .eq 7, 3) := by decide +kernel
theorem dX1_dirty_26 : decode cX1_dirty 26 = .ok (.iconst 1, 1) := by decide +kernel
theorem dX1_dirty_27 : decode cX1_dirty 27 = .ok (.goto 4, 3) := by decide +kernel
theorem dX1_dirty_30 : decode cX1_dirty 30 = .ok (.iconst 0, 1) := by decide +kernel
theorem dX1_dirty_31 : decode cX1_dirty 31 = .ok (.ireturn, 1) := by decide +kernel
theorem dX1_copy_0 : decode cX1_copy 0 = .ok (.bipush 16, 2) := by decide +kernel
theorem dX1_copy_2 : decode cX1_copy 2 = .ok (.iload_n 2, 1) := by decide +kernel
theorem dX1_copy_3 : decode cX1_copy 3 = .ok (.imul, 1) := by decide +kernel
theorem dX1_copy_4 : decode cX1_copy 4 = .ok (.istore_n 3, 1) := by decide +kernel
theorem dX1_copy_5 : decode cX1_copy 5 = .ok (.iload_n 3, 1) := by decide +kernel
theorem dX1_copy_6 : decode cX1_copy 6 = .ok (.bipush 16, 2) := by decide +kernel
theorem dX1_copy_8 : decode cX1_copy 8 = .ok (.iload_n 2, 1) := by decide +kernel
theorem dX1_copy_9 : decode cX1_copy 9 = .ok (.imul, 1) := by decide +kernel
theorem dX1_copy_10 : decode cX1_copy 10 = .ok (.bipush 16, 2) := by decide +kernel
theorem dX1_copy_12 : decode cX1_copy 12 = .ok (.iadd, 1) := by decide +kernel
theorem dX1_copy_13 : decode cX1_copy 13 = .ok (.if_icmp .ge 15, 3) := by decide +kernel
theorem dX1_copy_16 : decode cX1_copy 16 = .ok (.aload_n 1, 1) := by decide +kernel
theorem dX1_copy_17 : decode cX1_copy 17 = .ok (.iload_n 3, 1) := by decide +kernel
theorem dX1_copy_18 : decode cX1_copy 18 = .ok (.aload_n 0, 1) := by decide +kernel
theorem dX1_copy_19 : decode cX1_copy 19 = .ok (.iload_n 3, 1) := by decide +kernel
theorem dX1_copy_20 : decode cX1_copy 20 = .ok (.baload, 1) := by decide +kernel
theorem dX1_copy_21 : decode cX1_copy 21 = .ok (.bastore, 1) := by decide +kernel
theorem dX1_copy_22 : decode cX1_copy 22 = .ok (.iinc 3 1, 3) := by decide +kernel
theorem dX1_copy_25 : decode cX1_copy 25 = .ok (.goto (-20), 3) := by decide +kernel
theorem dX1_copy_28 : decode cX1_copy 28 = .ok (.return_, 1) := by decide +kernel
theorem dX1_many_0 : decode cX1_many 0 = .ok (.iconst 0, 1) := by decide +kernel
theorem dX1_many_1 : decode cX1_many 1 = .ok (.istore_n 1, 1) := by decide +kernel
theorem dX1_many_2 : decode cX1_many 2 = .ok (.iconst 0, 1) := by decide +kernel
theorem dX1_many_3 : decode cX1_many 3 = .ok (.istore_n 2, 1) := by decide +kernel
theorem dX1_many_4 : decode cX1_many 4 = .ok (.iload_n 2, 1) := by decide +kernel
theorem dX1_many_5 : decode cX1_many 5 = .ok (.bipush 24, 2) := by decide +kernel
theorem dX1_many_7 : decode cX1_many 7 = .ok (.if_icmp .ge 26, 3) := by decide +kernel
theorem dX1_many_10 : decode cX1_many 10 = .ok (.iload_n 1, 1) := by decide +kernel
theorem dX1_many_11 : decode cX1_many 11 = .ok (.aload_n 0, 1) := by decide +kernel
theorem dX1_many_12 : decode cX1_many 12 = .ok (.getfield 19, 3) := by decide +kernel
theorem dX1_many_15 : decode cX1_many 15 = .ok (.iload_n 2, 1) := by decide +kernel
theorem dX1_many_16 : decode cX1_many 16 = .ok (.baload, 1) := by decide +kernel
theorem dX1_many_17 : decode cX1_many 17 = .ok (.ifCond .eq 7, 3) := by decide +kernel
theorem dX1_many_20 : decode cX1_many 20 = .ok (.iconst 1, 1) := by decide +kernel
theorem dX1_many_21 : decode cX1_many 21 = .ok (.goto 4, 3) := by decide +kernel
theorem dX1_many_24 : decode cX1_many 24 = .ok (.iconst 0, 1) := by decide +kernel
theorem dX1_many_25 : decode cX1_many 25 = .ok (.iadd, 1) := by decide +kernel
theorem dX1_many_26 : decode cX1_many 26 = .ok (.istore_n 1, 1) := by decide +kernel
theorem dX1_many_27 : decode cX1_many 27 = .ok (.iinc 2 1, 3) := by decide +kernel
theorem dX1_many_30 : decode cX1_many 30 = .ok (.goto (-26), 3) := by decide +kernel
theorem dX1_many_33 : decode cX1_many 33 = .ok (.iload_n 1, 1) := by decide +kernel
theorem dX1_many_34 : decode cX1_many 34 = .ok (.ireturn, 1) := by decide +kernel
set_option maxRecDepth 20000 in
theorem ggX1_note_X1_copy : GoodIn wsX1_note wsX1_copy := goodIn_r _ [9] (by decide +kernel) (by decide +kernel)
set_option maxRecDepth 20000 in
theorem gX1_note_X1_copy : GoodIn wsX1_note (va_wsS RX1 38 yX1_copy wsX1_copy) := goodIn_app (goodIn_of _ (by decide +kernel)) ggX1_note_X1_copy
theorem dX1_note_0 : decode cX1_note 0 = .ok (.iconst 0, 1) := by decide +kernel
theorem dX1_note_1 : decode cX1_note 1 = .ok (.istore_n 1, 1) := by decide +kernel
theorem dX1_note_2 : decode cX1_note 2 = .ok (.iload_n 1, 1) := by decide +kernel
theorem dX1_note_3 : decode cX1_note 3 = .ok (.bipush 24, 2) := by decide +kernel
theorem dX1_note_5 : decode cX1_note 5 = .ok (.if_icmp .ge 42, 3) := by decide +kernel
theorem dX1_note_8 : decode cX1_note 8 = .ok (.aload_n 0, 1) := by decide +kernel
theorem dX1_note_9 : decode cX1_note 9 = .ok (.getfield 23, 3) := by decide +kernel
theorem dX1_note_12 : decode cX1_note 12 = .ok (.iload_n 1, 1) := by decide +kernel
theorem dX1_note_13 : decode cX1_note 13 = .ok (.aload_n 0, 1) := by decide +kernel
theorem dX1_note_14 : decode cX1_note 14 = .ok (.getfield 19, 3) := by decide +kernel
theorem dX1_note_17 : decode cX1_note 17 = .ok (.iload_n 1, 1) := by decide +kernel
theorem dX1_note_18 : decode cX1_note 18 = .ok (.baload, 1) := by decide +kernel
theorem dX1_note_19 : decode cX1_note 19 = .ok (.bastore, 1) := by decide +kernel
theorem dX1_note_20 : decode cX1_note 20 = .ok (.aload_n 0, 1) := by decide +kernel
theorem dX1_note_21 : decode cX1_note 21 = .ok (.getfield 19, 3) := by decide +kernel
theorem dX1_note_24 : decode cX1_note 24 = .ok (.iload_n 1, 1) := by decide +kernel
theorem dX1_note_25 : decode cX1_note 25 = .ok (.baload, 1) := by decide +kernel
theorem dX1_note_26 : decode cX1_note 26 = .ok (.ifCond .eq 15, 3) := by decide +kernel
theorem dX1_note_29 : decode cX1_note 29 = .ok (.aload_n 0, 1) := by decide +kernel
theorem dX1_note_30 : decode cX1_note 30 = .ok (.getfield 7, 3) := by decide +kernel
theorem dX1_note_33 : decode cX1_note 33 = .ok (.aload_n 0, 1) := by decide +kernel
theorem dX1_note_34 : decode cX1_note 34 = .ok (.getfield 16, 3) := by decide +kernel
theorem dX1_note_37 : decode cX1_note 37 = .ok (.iload_n 1, 1) := by decide +kernel
theorem dX1_note_38 : decode cX1_note 38 = .ok (.invokestatic 38, 3) := by decide +kernel
theorem dX1_note_41 : decode cX1_note 41 = .ok (.iinc 1 1, 3) := by decide +kernel
theorem dX1_note_44 : decode cX1_note 44 = .ok (.goto (-42), 3) := by decide +kernel
theorem dX1_note_47 : decode cX1_note 47 = .ok (.aload_n 0, 1) := by decide +kernel
theorem dX1_note_48 : decode cX1_note 48 = .ok (.iconst 1, 1) := by decide +kernel
theorem dX1_note_49 : decode cX1_note 49 = .ok (.putfield 42, 3) := by decide +kernel
theorem dX1_note_52 : decode cX1_note 52 = .ok (.return_, 1) := by decide +kernel
set_option maxRecDepth 20000 in
theorem ggX1_lay_X1_copy : GoodIn wsX1_lay wsX1_copy := goodIn_r _ [7] (by decide +kernel) (by decide +kernel)
set_option maxRecDepth 20000 in
theorem gX1_lay_X1_copy : GoodIn wsX1_lay (va_wsS RX1 38 yX1_copy wsX1_copy) := goodIn_app (goodIn_of _ (by decide +kernel)) ggX1_lay_X1_copy
theorem dX1_lay_0 : decode cX1_lay 0 = .ok (.iconst 0, 1) := by decide +kernel
theorem dX1_lay_1 : decode cX1_lay 1 = .ok (.istore_n 2, 1) := by decide +kernel
theorem dX1_lay_2 : decode cX1_lay 2 = .ok (.iconst 0, 1) := by decide +kernel
theorem dX1_lay_3 : decode cX1_lay 3 = .ok (.istore_n 3, 1) := by decide +kernel
theorem dX1_lay_4 : decode cX1_lay 4 = .ok (.iload_n 3, 1) := by decide +kernel
theorem dX1_lay_5 : decode cX1_lay 5 = .ok (.bipush 24, 2) := by decide +kernel
theorem dX1_lay_7 : decode cX1_lay 7 = .ok (.if_icmp .ge 52, 3) := by decide +kernel
theorem dX1_lay_10 : decode cX1_lay 10 = .ok (.aload_n 0, 1) := by decide +kernel
theorem dX1_lay_11 : decode cX1_lay 11 = .ok (.getfield 23, 3) := by decide +kernel
theorem dX1_lay_14 : decode cX1_lay 14 = .ok (.iload_n 3, 1) := by decide +kernel
theorem dX1_lay_15 : decode cX1_lay 15 = .ok (.baload, 1) := by decide +kernel
theorem dX1_lay_16 : decode cX1_lay 16 = .ok (.ifCond .eq 20, 3) := by decide +kernel
theorem dX1_lay_19 : decode cX1_lay 19 = .ok (.iload_n 2, 1) := by decide +kernel
theorem dX1_lay_20 : decode cX1_lay 20 = .ok (.iload_n 1, 1) := by decide +kernel
theorem dX1_lay_21 : decode cX1_lay 21 = .ok (.if_icmp .ge 15, 3) := by decide +kernel
theorem dX1_lay_24 : decode cX1_lay 24 = .ok (.aload_n 0, 1) := by decide +kernel
theorem dX1_lay_25 : decode cX1_lay 25 = .ok (.getfield 16, 3) := by decide +kernel
theorem dX1_lay_28 : decode cX1_lay 28 = .ok (.aload_n 0, 1) := by decide +kernel
theorem dX1_lay_29 : decode cX1_lay 29 = .ok (.getfield 13, 3) := by decide +kernel
theorem dX1_lay_32 : decode cX1_lay 32 = .ok (.iload_n 3, 1) := by decide +kernel
theorem dX1_lay_33 : decode cX1_lay 33 = .ok (.invokestatic 38, 3) := by decide +kernel
theorem dX1_lay_36 : decode cX1_lay 36 = .ok (.iload_n 2, 1) := by decide +kernel
theorem dX1_lay_37 : decode cX1_lay 37 = .ok (.aload_n 0, 1) := by decide +kernel
theorem dX1_lay_38 : decode cX1_lay 38 = .ok (.getfield 23, 3) := by decide +kernel
theorem dX1_lay_41 : decode cX1_lay 41 = .ok (.iload_n 3, 1) := by decide +kernel
theorem dX1_lay_42 : decode cX1_lay 42 = .ok (.baload, 1) := by decide +kernel
theorem dX1_lay_43 : decode cX1_lay 43 = .ok (.ifCond .eq 7, 3) := by decide +kernel
theorem dX1_lay_46 : decode cX1_lay 46 = .ok (.iconst 1, 1) := by decide +kernel
theorem dX1_lay_47 : decode cX1_lay 47 = .ok (.goto 4, 3) := by decide +kernel
theorem dX1_lay_50 : decode cX1_lay 50 = .ok (.iconst 0, 1) := by decide +kernel
theorem dX1_lay_51 : decode cX1_lay 51 = .ok (.iadd, 1) := by decide +kernel
theorem dX1_lay_52 : decode cX1_lay 52 = .ok (.istore_n 2, 1) := by decide +kernel
theorem dX1_lay_53 : decode cX1_lay 53 = .ok (.iinc 3 1, 3) := by decide +kernel
theorem dX1_lay_56 : decode cX1_lay 56 = .ok (.goto (-52), 3) := by decide +kernel
theorem dX1_lay_59 : decode cX1_lay 59 = .ok (.return_, 1) := by decide +kernel
set_option maxRecDepth 20000 in
theorem ggX1_fresh_X1_copy : GoodIn wsX1_fresh wsX1_copy := goodIn_r _ [7] (by decide +kernel) (by decide +kernel)
set_option maxRecDepth 20000 in
theorem gX1_fresh_X1_copy : GoodIn wsX1_fresh (va_wsS RX1 38 yX1_copy wsX1_copy) := goodIn_app (goodIn_of _ (by decide +kernel)) ggX1_fresh_X1_copy
theorem dX1_fresh_0 : decode cX1_fresh 0 = .ok (.iconst 0, 1) := by decide +kernel
theorem dX1_fresh_1 : decode cX1_fresh 1 = .ok (.istore_n 1, 1) := by decide +kernel
theorem dX1_fresh_2 : decode cX1_fresh 2 = .ok (.iload_n 1, 1) := by decide +kernel
theorem dX1_fresh_3 : decode cX1_fresh 3 = .ok (.bipush 24, 2) := by decide +kernel
theorem dX1_fresh_5 : decode cX1_fresh 5 = .ok (.if_icmp .ge 28, 3) := by decide +kernel
theorem dX1_fresh_8 : decode cX1_fresh 8 = .ok (.aload_n 0, 1) := by decide +kernel
theorem dX1_fresh_9 : decode cX1_fresh 9 = .ok (.getfield 13, 3) := by decide +kernel
theorem dX1_fresh_12 : decode cX1_fresh 12 = .ok (.aload_n 0, 1) := by decide +kernel
theorem dX1_fresh_13 : decode cX1_fresh 13 = .ok (.getfield 7, 3) := by decide +kernel
theorem dX1_fresh_16 : decode cX1_fresh 16 = .ok (.iload_n 1, 1) := by decide +kernel
theorem dX1_fresh_17 : decode cX1_fresh 17 = .ok (.invokestatic 38, 3) := by decide +kernel
theorem dX1_fresh_20 : decode cX1_fresh 20 = .ok (.aload_n 0, 1) := by decide +kernel
theorem dX1_fresh_21 : decode cX1_fresh 21 = .ok (.getfield 19, 3) := by decide +kernel
theorem dX1_fresh_24 : decode cX1_fresh 24 = .ok (.iload_n 1, 1) := by decide +kernel
theorem dX1_fresh_25 : decode cX1_fresh 25 = .ok (.iconst 0, 1) := by decide +kernel
theorem dX1_fresh_26 : decode cX1_fresh 26 = .ok (.bastore, 1) := by decide +kernel
theorem dX1_fresh_27 : decode cX1_fresh 27 = .ok (.iinc 1 1, 3) := by decide +kernel
theorem dX1_fresh_30 : decode cX1_fresh 30 = .ok (.goto (-28), 3) := by decide +kernel
theorem dX1_fresh_33 : decode cX1_fresh 33 = .ok (.return_, 1) := by decide +kernel
set_option maxRecDepth 20000 in
theorem ggX1_commit_X1_many : GoodIn wsX1_commit wsX1_many := goodIn_r _ [11, 6, 27, 28, 29, 30, 31, 32, 33, 34, 35, 36] (by decide +kernel) (by decide +kernel)
set_option maxRecDepth 20000 in
theorem gX1_commit_X1_many : GoodIn wsX1_commit (wsV RX1 45 RX1 yX1_many wsX1_many) := goodIn_app (goodIn_of _ (by decide +kernel)) ggX1_commit_X1_many
set_option maxRecDepth 20000 in
theorem ggX1_commit_X1_note : GoodIn wsX1_commit wsX1_note := goodIn_r _ [15, 16, 6, 17, 18, 5, 19, 20, 10, 21, 27, 28, 29, 30, 31, 32, 33, 34, 35, 36] (by decide +kernel) (by decide +kernel)
set_option maxRecDepth 20000 in
theorem gX1_commit_X1_note : GoodIn wsX1_commit (wsV RX1 59 RX1 yX1_note wsX1_note) := goodIn_app (goodIn_of _ (by decide +kernel)) ggX1_commit_X1_note
set_option maxRecDepth 20000 in
theorem ggX1_commit_X1_lay : GoodIn wsX1_commit wsX1_lay := goodIn_r _ [25, 16, 18, 26, 19, 20, 10, 21, 27, 28, 29, 30, 31, 32, 33, 34, 35, 36] (by decide +kernel) (by decide +kernel)
set_option maxRecDepth 20000 in
theorem gX1_commit_X1_lay : GoodIn wsX1_commit (wsV RX1 62 RX1 yX1_lay wsX1_lay) := goodIn_app (goodIn_of _ (by decide +kernel)) ggX1_commit_X1_lay
theorem dX1_commit_0 : decode cX1_commit 0 = .ok (.aload_n 0, 1) := by decide +kernel
theorem dX1_commit_1 : decode cX1_commit 1 = .ok (.getfield 30, 3) := by decide +kernel
theorem dX1_commit_4 : decode cX1_commit 4 = .ok (.ifCond .eq 5, 3) := by decide +kernel
theorem dX1_commit_7 : decode cX1_commit 7 = .ok (.iconst 0, 1) := by decide +kernel
theorem dX1_commit_8 : decode cX1_commit 8 = .ok (.ireturn, 1) := by decide +kernel
theorem dX1_commit_9 : decode cX1_commit 9 = .ok (.aload_n 0, 1) := by decide +kernel
theorem dX1_commit_10 : decode cX1_commit 10 = .ok (.invokevirtual 45, 3) := by decide +kernel
theorem dX1_commit_13 : decode cX1_commit 13 = .ok (.istore_n 1, 1) := by decide +kernel
theorem dX1_commit_14 : decode cX1_commit 14 = .ok (.aload_n 0, 1) := by decide +kernel
theorem dX1_commit_15 : decode cX1_commit 15 = .ok (.iload_n 1, 1) := by decide +kernel
theorem dX1_commit_16 : decode cX1_commit 16 = .ok (.putfield 49, 3) := by decide +kernel
theorem dX1_commit_19 : decode cX1_commit 19 = .ok (.aload_n 0, 1) := by decide +kernel
theorem dX1_commit_20 : decode cX1_commit 20 = .ok (.aload_n 0, 1) := by decide +kernel
theorem dX1_commit_21 : decode cX1_commit 21 = .ok (.getfield 53, 3) := by decide +kernel
theorem dX1_commit_24 : decode cX1_commit 24 = .ok (.ifCond .le 12, 3) := by decide +kernel
theorem dX1_commit_27 : decode cX1_commit 27 = .ok (.aload_n 0, 1) := by decide +kernel
theorem dX1_commit_28 : decode cX1_commit 28 = .ok (.getfield 53, 3) := by decide +kernel
theorem dX1_commit_31 : decode cX1_commit 31 = .ok (.iconst 1, 1) := by decide +kernel
theorem dX1_commit_32 : decode cX1_commit 32 = .ok (.isub, 1) := by decide +kernel
theorem dX1_commit_33 : decode cX1_commit 33 = .ok (.goto 4, 3) := by decide +kernel
theorem dX1_commit_36 : decode cX1_commit 36 = .ok (.iconst (-1), 1) := by decide +kernel
theorem dX1_commit_37 : decode cX1_commit 37 = .ok (.putfield 53, 3) := by decide +kernel
theorem dX1_commit_40 : decode cX1_commit 40 = .ok (.aload_n 0, 1) := by decide +kernel
theorem dX1_commit_41 : decode cX1_commit 41 = .ok (.aload_n 0, 1) := by decide +kernel
theorem dX1_commit_42 : decode cX1_commit 42 = .ok (.getfield 53, 3) := by decide +kernel
theorem dX1_commit_45 : decode cX1_commit 45 = .ok (.ifCond .ne 7, 3) := by decide +kernel
theorem dX1_commit_48 : decode cX1_commit 48 = .ok (.iconst 1, 1) := by decide +kernel
theorem dX1_commit_49 : decode cX1_commit 49 = .ok (.goto 4, 3) := by decide +kernel
theorem dX1_commit_52 : decode cX1_commit 52 = .ok (.iconst 0, 1) := by decide +kernel
theorem dX1_commit_53 : decode cX1_commit 53 = .ok (.putfield 30, 3) := by decide +kernel
theorem dX1_commit_56 : decode cX1_commit 56 = .ok (.aload_n 0, 1) := by decide +kernel
theorem dX1_commit_57 : decode cX1_commit 57 = .ok (.getfield 30, 3) := by decide +kernel
theorem dX1_commit_60 : decode cX1_commit 60 = .ok (.ifCond .eq 15, 3) := by decide +kernel
theorem dX1_commit_63 : decode cX1_commit 63 = .ok (.aload_n 0, 1) := by decide +kernel
theorem dX1_commit_64 : decode cX1_commit 64 = .ok (.getfield 56, 3) := by decide +kernel
theorem dX1_commit_67 : decode cX1_commit 67 = .ok (.sipush 500, 3) := by decide +kernel
theorem dX1_commit_70 : decode cX1_commit 70 = .ok (.if_icmp .ge 5, 3) := by decide +kernel
theorem dX1_commit_73 : decode cX1_commit 73 = .ok (.iconst 0, 1) := by decide +kernel
theorem dX1_commit_74 : decode cX1_commit 74 = .ok (.ireturn, 1) := by decide +kernel
theorem dX1_commit_75 : decode cX1_commit 75 = .ok (.aload_n 0, 1) := by decide +kernel
theorem dX1_commit_76 : decode cX1_commit 76 = .ok (.invokevirtual 59, 3) := by decide +kernel
theorem dX1_commit_79 : decode cX1_commit 79 = .ok (.aload_n 0, 1) := by decide +kernel
theorem dX1_commit_80 : decode cX1_commit 80 = .ok (.aload_n 0, 1) := by decide +kernel
theorem dX1_commit_81 : decode cX1_commit 81 = .ok (.getfield 30, 3) := by decide +kernel
theorem dX1_commit_84 : decode cX1_commit 84 = .ok (.ifCond .eq 20, 3) := by decide +kernel
theorem dX1_commit_87 : decode cX1_commit 87 = .ok (.iload_n 1, 1) := by decide +kernel
theorem dX1_commit_88 : decode cX1_commit 88 = .ok (.aload_n 0, 1) := by decide +kernel
theorem dX1_commit_89 : decode cX1_commit 89 = .ok (.getfield 56, 3) := by decide +kernel
theorem dX1_commit_92 : decode cX1_commit 92 = .ok (.sipush 500, 3) := by decide +kernel
theorem dX1_commit_95 : decode cX1_commit 95 = .ok (.isub, 1) := by decide +kernel
theorem dX1_commit_96 : decode cX1_commit 96 = .ok (.imul, 1) := by decide +kernel
theorem dX1_commit_97 : decode cX1_commit 97 = .ok (.sipush 500, 3) := by decide +kernel
theorem dX1_commit_100 : decode cX1_commit 100 = .ok (.idiv, 1) := by decide +kernel
theorem dX1_commit_101 : decode cX1_commit 101 = .ok (.goto 4, 3) := by decide +kernel
theorem dX1_commit_104 : decode cX1_commit 104 = .ok (.iload_n 1, 1) := by decide +kernel
theorem dX1_commit_105 : decode cX1_commit 105 = .ok (.invokevirtual 62, 3) := by decide +kernel
theorem dX1_commit_108 : decode cX1_commit 108 = .ok (.aload_n 0, 1) := by decide +kernel
theorem dX1_commit_109 : decode cX1_commit 109 = .ok (.aload_n 0, 1) := by decide +kernel
theorem dX1_commit_110 : decode cX1_commit 110 = .ok (.getfield 30, 3) := by decide +kernel
theorem dX1_commit_113 : decode cX1_commit 113 = .ok (.putfield 42, 3) := by decide +kernel
theorem dX1_commit_116 : decode cX1_commit 116 = .ok (.iconst 0, 1) := by decide +kernel
theorem dX1_commit_117 : decode cX1_commit 117 = .ok (.istore_n 2, 1) := by decide +kernel
theorem dX1_commit_118 : decode cX1_commit 118 = .ok (.iload_n 2, 1) := by decide +kernel
theorem dX1_commit_119 : decode cX1_commit 119 = .ok (.bipush 24, 2) := by decide +kernel
theorem dX1_commit_121 : decode cX1_commit 121 = .ok (.if_icmp .ge 16, 3) := by decide +kernel
theorem dX1_commit_124 : decode cX1_commit 124 = .ok (.aload_n 0, 1) := by decide +kernel
theorem dX1_commit_125 : decode cX1_commit 125 = .ok (.getfield 19, 3) := by decide +kernel
theorem dX1_commit_128 : decode cX1_commit 128 = .ok (.iload_n 2, 1) := by decide +kernel
theorem dX1_commit_129 : decode cX1_commit 129 = .ok (.iconst 0, 1) := by decide +kernel
theorem dX1_commit_130 : decode cX1_commit 130 = .ok (.bastore, 1) := by decide +kernel
theorem dX1_commit_131 : decode cX1_commit 131 = .ok (.iinc 2 1, 3) := by decide +kernel
theorem dX1_commit_134 : decode cX1_commit 134 = .ok (.goto (-16), 3) := by decide +kernel
theorem dX1_commit_137 : decode cX1_commit 137 = .ok (.aload_n 0, 1) := by decide +kernel
theorem dX1_commit_138 : decode cX1_commit 138 = .ok (.getfield 30, 3) := by decide +kernel
theorem dX1_commit_141 : decode cX1_commit 141 = .ok (.ifCond .ne 7, 3) := by decide +kernel
theorem dX1_commit_144 : decode cX1_commit 144 = .ok (.iconst 1, 1) := by decide +kernel
theorem dX1_commit_145 : decode cX1_commit 145 = .ok (.goto 4, 3) := by decide +kernel
theorem dX1_commit_148 : decode cX1_commit 148 = .ok (.iconst 0, 1) := by decide +kernel
theorem dX1_commit_149 : decode cX1_commit 149 = .ok (.ireturn, 1) := by decide +kernel
set_option maxRecDepth 20000 in
theorem ggX1_revert_X1_fresh : GoodIn wsX1_revert wsX1_fresh := goodIn_r _ [6, 7, 8, 9, 10, 11, 5, 12, 13, 14, 15, 16, 17, 18, 19, 20, 21, 22] (by decide +kernel) (by decide +kernel)
set_option maxRecDepth 20000 in
theorem gX1_revert_X1_fresh : GoodIn wsX1_revert (wsV RX1 66 RX1 yX1_fresh wsX1_fresh) := goodIn_app (goodIn_of _ (by decide +kernel)) ggX1_revert_X1_fresh
theorem dX1_revert_0 : decode cX1_revert 0 = .ok (.aload_n 0, 1) := by decide +kernel
theorem dX1_revert_1 : decode cX1_revert 1 = .ok (.getfield 30, 3) := by decide +kernel
theorem dX1_revert_4 : decode cX1_revert 4 = .ok (.ifCond .eq 5, 3) := by decide +kernel
theorem dX1_revert_7 : decode cX1_revert 7 = .ok (.iconst 0, 1) := by decide +kernel
theorem dX1_revert_8 : decode cX1_revert 8 = .ok (.ireturn, 1) := by decide +kernel
theorem dX1_revert_9 : decode cX1_revert 9 = .ok (.aload_n 0, 1) := by decide +kernel
theorem dX1_revert_10 : decode cX1_revert 10 = .ok (.invokevirtual 66, 3) := by decide +kernel
theorem dX1_revert_13 : decode cX1_revert 13 = .ok (.iconst 1, 1) := by decide +kernel
theorem dX1_revert_14 : decode cX1_revert 14 = .ok (.ireturn, 1) := by decide +kernel
set_option maxRecDepth 20000 in
theorem ggX1_cut_X1_in : GoodIn wsX1_cut wsX1_in := goodIn_r _ [7] (by decide +kernel) (by decide +kernel)
set_option maxRecDepth 20000 in
theorem gX1_cut_X1_in : GoodIn wsX1_cut (va_wsS RX1 26 yX1_in wsX1_in) := goodIn_app (goodIn_of _ (by decide +kernel)) ggX1_cut_X1_in
theorem dX1_cut_0 : decode cX1_cut 0 = .ok (.aload_n 0, 1) := by decide +kernel
theorem dX1_cut_1 : decode cX1_cut 1 = .ok (.getfield 30, 3) := by decide +kernel
theorem dX1_cut_4 : decode cX1_cut 4 = .ok (.ifCond .ne 25, 3) := by decide +kernel
theorem dX1_cut_7 : decode cX1_cut 7 = .ok (.iload_n 1, 1) := by decide +kernel
theorem dX1_cut_8 : decode cX1_cut 8 = .ok (.iconst 1, 1) := by decide +kernel
theorem dX1_cut_9 : decode cX1_cut 9 = .ok (.sipush 1000, 3) := by decide +kernel
theorem dX1_cut_12 : decode cX1_cut 12 = .ok (.invokestatic 26, 3) := by decide +kernel
theorem dX1_cut_15 : decode cX1_cut 15 = .ok (.ifCond .eq 14, 3) := by decide +kernel
theorem dX1_cut_18 : decode cX1_cut 18 = .ok (.iload_n 2, 1) := by decide +kernel
theorem dX1_cut_19 : decode cX1_cut 19 = .ok (.iconst 0, 1) := by decide +kernel
theorem dX1_cut_20 : decode cX1_cut 20 = .ok (.sipush 999, 3) := by decide +kernel
theorem dX1_cut_23 : decode cX1_cut 23 = .ok (.invokestatic 26, 3) := by decide +kernel
theorem dX1_cut_26 : decode cX1_cut 26 = .ok (.ifCond .ne 5, 3) := by decide +kernel
theorem dX1_cut_29 : decode cX1_cut 29 = .ok (.iconst 0, 1) := by decide +kernel
theorem dX1_cut_30 : decode cX1_cut 30 = .ok (.ireturn, 1) := by decide +kernel
theorem dX1_cut_31 : decode cX1_cut 31 = .ok (.aload_n 0, 1) := by decide +kernel
theorem dX1_cut_32 : decode cX1_cut 32 = .ok (.iload_n 1, 1) := by decide +kernel
theorem dX1_cut_33 : decode cX1_cut 33 = .ok (.putfield 53, 3) := by decide +kernel
theorem dX1_cut_36 : decode cX1_cut 36 = .ok (.aload_n 0, 1) := by decide +kernel
theorem dX1_cut_37 : decode cX1_cut 37 = .ok (.iload_n 2, 1) := by decide +kernel
theorem dX1_cut_38 : decode cX1_cut 38 = .ok (.putfield 56, 3) := by decide +kernel
theorem dX1_cut_41 : decode cX1_cut 41 = .ok (.iconst 1, 1) := by decide +kernel
theorem dX1_cut_42 : decode cX1_cut 42 = .ok (.ireturn, 1) := by decide +kernel
theorem dX1_loggedMany_0 : decode cX1_loggedMany 0 = .ok (.iconst 0, 1) := by decide +kernel
theorem dX1_loggedMany_1 : decode cX1_loggedMany 1 = .ok (.istore_n 1, 1) := by decide +kernel
theorem dX1_loggedMany_2 : decode cX1_loggedMany 2 = .ok (.iconst 0, 1) := by decide +kernel
theorem dX1_loggedMany_3 : decode cX1_loggedMany 3 = .ok (.istore_n 2, 1) := by decide +kernel
theorem dX1_loggedMany_4 : decode cX1_loggedMany 4 = .ok (.iload_n 2, 1) := by decide +kernel
theorem dX1_loggedMany_5 : decode cX1_loggedMany 5 = .ok (.bipush 24, 2) := by decide +kernel
theorem dX1_loggedMany_7 : decode cX1_loggedMany 7 = .ok (.if_icmp .ge 26, 3) := by decide +kernel
theorem dX1_loggedMany_10 : decode cX1_loggedMany 10 = .ok (.iload_n 1, 1) := by decide +kernel
theorem dX1_loggedMany_11 : decode cX1_loggedMany 11 = .ok (.aload_n 0, 1) := by decide +kernel
theorem dX1_loggedMany_12 : decode cX1_loggedMany 12 = .ok (.getfield 23, 3) := by decide +kernel
theorem dX1_loggedMany_15 : decode cX1_loggedMany 15 = .ok (.iload_n 2, 1) := by decide +kernel
theorem dX1_loggedMany_16 : decode cX1_loggedMany 16 = .ok (.baload, 1) := by decide +kernel
theorem dX1_loggedMany_17 : decode cX1_loggedMany 17 = .ok (.ifCond .eq 7, 3) := by decide +kernel
theorem dX1_loggedMany_20 : decode cX1_loggedMany 20 = .ok (.iconst 1, 1) := by decide +kernel
theorem dX1_loggedMany_21 : decode cX1_loggedMany 21 = .ok (.goto 4, 3) := by decide +kernel
theorem dX1_loggedMany_24 : decode cX1_loggedMany 24 = .ok (.iconst 0, 1) := by decide +kernel
theorem dX1_loggedMany_25 : decode cX1_loggedMany 25 = .ok (.iadd, 1) := by decide +kernel
theorem dX1_loggedMany_26 : decode cX1_loggedMany 26 = .ok (.istore_n 1, 1) := by decide +kernel
theorem dX1_loggedMany_27 : decode cX1_loggedMany 27 = .ok (.iinc 2 1, 3) := by decide +kernel
theorem dX1_loggedMany_30 : decode cX1_loggedMany 30 = .ok (.goto (-26), 3) := by decide +kernel
theorem dX1_loggedMany_33 : decode cX1_loggedMany 33 = .ok (.iload_n 1, 1) := by decide +kernel
theorem dX1_loggedMany_34 : decode cX1_loggedMany 34 = .ok (.ireturn, 1) := by decide +kernel
set_option maxRecDepth 20000 in
theorem ggX1_start_X1_in : GoodIn wsX1_start wsX1_in := goodIn_r _ [6] (by decide +kernel) (by decide +kernel)
set_option maxRecDepth 20000 in
theorem gX1_start_X1_in : GoodIn wsX1_start (va_wsS RX1 26 yX1_in wsX1_in) := goodIn_app (goodIn_of _ (by decide +kernel)) ggX1_start_X1_in
set_option maxRecDepth 20000 in
theorem ggX1_start_X1_loggedMany : GoodIn wsX1_start wsX1_loggedMany := goodIn_r _ [10, 11, 27, 28, 29, 30, 31, 32, 33, 34, 35, 36] (by decide +kernel) (by decide +kernel)
set_option maxRecDepth 20000 in
theorem gX1_start_X1_loggedMany : GoodIn wsX1_start (wsV RX1 69 RX1 yX1_loggedMany wsX1_loggedMany) := goodIn_app (goodIn_of _ (by decide +kernel)) ggX1_start_X1_loggedMany
set_option maxRecDepth 20000 in
theorem ggX1_start_X1_lay : GoodIn wsX1_start wsX1_lay := goodIn_r _ [15, 11, 16, 17, 18, 19, 5, 20, 27, 28, 29, 30, 31, 32, 33, 34, 35, 36] (by decide +kernel) (by decide +kernel)
set_option maxRecDepth 20000 in
theorem gX1_start_X1_lay : GoodIn wsX1_start (wsV RX1 62 RX1 yX1_lay wsX1_lay) := goodIn_app (goodIn_of _ (by decide +kernel)) ggX1_start_X1_lay
set_option maxRecDepth 20000 in
theorem ggX1_start_X1_fresh : GoodIn wsX1_start wsX1_fresh := goodIn_r _ [24, 17, 25, 26, 18, 19, 5, 20, 27, 28, 29, 30, 31, 32, 33, 34, 35, 36] (by decide +kernel) (by decide +kernel)
set_option maxRecDepth 20000 in
theorem gX1_start_X1_fresh : GoodIn wsX1_start (wsV RX1 66 RX1 yX1_fresh wsX1_fresh) := goodIn_app (goodIn_of _ (by decide +kernel)) ggX1_start_X1_fresh
theorem dX1_start_0 : decode cX1_start 0 = .ok (.aload_n 0, 1) := by decide +kernel
theorem dX1_start_1 : decode cX1_start 1 = .ok (.getfield 30, 3) := by decide +kernel
theorem dX1_start_4 : decode cX1_start 4 = .ok (.ifCond .eq 14, 3) := by decide +kernel
theorem dX1_start_7 : decode cX1_start 7 = .ok (.iload_n 1, 1) := by decide +kernel
theorem dX1_start_8 : decode cX1_start 8 = .ok (.iconst 0, 1) := by decide +kernel
theorem dX1_start_9 : decode cX1_start 9 = .ok (.sipush 1000, 3) := by decide +kernel
theorem dX1_start_12 : decode cX1_start 12 = .ok (.invokestatic 26, 3) := by decide +kernel
theorem dX1_start_15 : decode cX1_start 15 = .ok (.ifCond .ne 5, 3) := by decide +kernel
theorem dX1_start_18 : decode cX1_start 18 = .ok (.iconst 0, 1) := by decide +kernel
theorem dX1_start_19 : decode cX1_start 19 = .ok (.ireturn, 1) := by decide +kernel
theorem dX1_start_20 : decode cX1_start 20 = .ok (.aload_n 0, 1) := by decide +kernel
theorem dX1_start_21 : decode cX1_start 21 = .ok (.getfield 42, 3) := by decide +kernel
theorem dX1_start_24 : decode cX1_start 24 = .ok (.ifCond .eq 17, 3) := by decide +kernel
theorem dX1_start_27 : decode cX1_start 27 = .ok (.aload_n 0, 1) := by decide +kernel
theorem dX1_start_28 : decode cX1_start 28 = .ok (.aload_n 0, 1) := by decide +kernel
theorem dX1_start_29 : decode cX1_start 29 = .ok (.invokevirtual 69, 3) := by decide +kernel
theorem dX1_start_32 : decode cX1_start 32 = .ok (.iload_n 1, 1) := by decide +kernel
theorem dX1_start_33 : decode cX1_start 33 = .ok (.imul, 1) := by decide +kernel
theorem dX1_start_34 : decode cX1_start 34 = .ok (.sipush 1000, 3) := by decide +kernel
theorem dX1_start_37 : decode cX1_start 37 = .ok (.idiv, 1) := by decide +kernel
theorem dX1_start_38 : decode cX1_start 38 = .ok (.invokevirtual 62, 3) := by decide +kernel
theorem dX1_start_41 : decode cX1_start 41 = .ok (.iload_n 1, 1) := by decide +kernel
theorem dX1_start_42 : decode cX1_start 42 = .ok (.sipush 1000, 3) := by decide +kernel
theorem dX1_start_45 : decode cX1_start 45 = .ok (.if_icmp .ge 5, 3) := by decide +kernel
theorem dX1_start_48 : decode cX1_start 48 = .ok (.iconst 0, 1) := by decide +kernel
theorem dX1_start_49 : decode cX1_start 49 = .ok (.ireturn, 1) := by decide +kernel
theorem dX1_start_50 : decode cX1_start 50 = .ok (.aload_n 0, 1) := by decide +kernel
theorem dX1_start_51 : decode cX1_start 51 = .ok (.iconst 0, 1) := by decide +kernel
theorem dX1_start_52 : decode cX1_start 52 = .ok (.putfield 42, 3) := by decide +kernel
theorem dX1_start_55 : decode cX1_start 55 = .ok (.aload_n 0, 1) := by decide +kernel
theorem dX1_start_56 : decode cX1_start 56 = .ok (.iconst 0, 1) := by decide +kernel
theorem dX1_start_57 : decode cX1_start 57 = .ok (.putfield 30, 3) := by decide +kernel
theorem dX1_start_60 : decode cX1_start 60 = .ok (.aload_n 0, 1) := by decide +kernel
theorem dX1_start_61 : decode cX1_start 61 = .ok (.invokevirtual 66, 3) := by decide +kernel
theorem dX1_start_64 : decode cX1_start 64 = .ok (.iconst 1, 1) := by decide +kernel
theorem dX1_start_65 : decode cX1_start 65 = .ok (.ireturn, 1) := by decide +kernel
theorem dX1_state_0 : decode cX1_state 0 = .ok (.iload_n 1, 1) := by decide +kernel
theorem dX1_state_1 : decode cX1_state 1 = .ok (.tableswitch 58 0 2 #[27, 40, 53], 27) := by decide +kernel
theorem dX1_state_28 : decode cX1_state 28 = .ok (.aload_n 0, 1) := by decide +kernel
theorem dX1_state_29 : decode cX1_state 29 = .ok (.getfield 30, 3) := by decide +kernel
theorem dX1_state_32 : decode cX1_state 32 = .ok (.ifCond .eq 7, 3) := by decide +kernel
theorem dX1_state_35 : decode cX1_state 35 = .ok (.iconst 0, 1) := by decide +kernel
theorem dX1_state_36 : decode cX1_state 36 = .ok (.goto 4, 3) := by decide +kernel
theorem dX1_state_39 : decode cX1_state 39 = .ok (.iconst 1, 1) := by decide +kernel
theorem dX1_state_40 : decode cX1_state 40 = .ok (.ireturn, 1) := by decide +kernel
theorem dX1_state_41 : decode cX1_state 41 = .ok (.aload_n 0, 1) := by decide +kernel
theorem dX1_state_42 : decode cX1_state 42 = .ok (.getfield 42, 3) := by decide +kernel
theorem dX1_state_45 : decode cX1_state 45 = .ok (.ifCond .eq 7, 3) := by decide +kernel
theorem dX1_state_48 : decode cX1_state 48 = .ok (.iconst 1, 1) := by decide +kernel
theorem dX1_state_49 : decode cX1_state 49 = .ok (.goto 4, 3) := by decide +kernel
theorem dX1_state_52 : decode cX1_state 52 = .ok (.iconst 0, 1) := by decide +kernel
theorem dX1_state_53 : decode cX1_state 53 = .ok (.ireturn, 1) := by decide +kernel
theorem dX1_state_54 : decode cX1_state 54 = .ok (.aload_n 0, 1) := by decide +kernel
theorem dX1_state_55 : decode cX1_state 55 = .ok (.getfield 49, 3) := by decide +kernel
theorem dX1_state_58 : decode cX1_state 58 = .ok (.ireturn, 1) := by decide +kernel
theorem dX1_state_59 : decode cX1_state 59 = .ok (.iconst (-1), 1) := by decide +kernel
theorem dX1_state_60 : decode cX1_state 60 = .ok (.ireturn, 1) := by decide +kernel
set_option maxRecDepth 20000 in
theorem ggL_law_X0_init : GoodIn wsL_law wsX0_init := goodIn_r _ [8, 9, 10, 11, 12, 13, 14, 15, 16, 17, 18, 19, 20, 21, 22, 23, 177, 178, 179, 180, 181, 182, 183, 184, 185, 186] (by decide +kernel) (by decide +kernel)
set_option maxRecDepth 20000 in
theorem gL_law_X0_init : GoodIn wsL_law (wsX0_init) := ggL_law_X0_init
set_option maxRecDepth 20000 in
theorem ggL_law_X1_init : GoodIn wsL_law wsX1_init := goodIn_r _ [26, 27, 10, 11, 28, 29, 30, 31, 16, 32, 33, 187, 188, 189, 190, 191, 192, 193, 194, 195, 196] (by decide +kernel) (by decide +kernel)
set_option maxRecDepth 20000 in
theorem gL_law_X1_init : GoodIn wsL_law (wsX1_init) := ggL_law_X1_init
set_option maxRecDepth 20000 in
theorem ggL_law_X0_write : GoodIn wsL_law wsX0_write := goodIn_r _ [37, 19, 13, 17, 38, 39, 2, 40, 41, 42, 43, 177, 178, 179, 180, 181, 182, 183, 184, 185, 186] (by decide +kernel) (by decide +kernel)
set_option maxRecDepth 20000 in
theorem gL_law_X0_write : GoodIn wsL_law (wsV RL 13 RX0 yX0_write wsX0_write) := goodIn_app (goodIn_of _ (by decide +kernel)) ggL_law_X0_write
set_option maxRecDepth 20000 in
theorem ggL_law_X1_write : GoodIn wsL_law wsX1_write := goodIn_r _ [47, 48, 29, 32, 49, 50, 5, 51, 52, 53, 54, 187, 188, 189, 190, 191, 192, 193, 194, 195, 196] (by decide +kernel) (by decide +kernel)
set_option maxRecDepth 20000 in
theorem gL_law_X1_write : GoodIn wsL_law (wsV RL 17 RX1 yX1_write wsX1_write) := goodIn_app (goodIn_of _ (by decide +kernel)) ggL_law_X1_write
set_option maxRecDepth 20000 in
theorem ggL_law_X0_read : GoodIn wsL_law wsX0_read := goodIn_r _ [58, 19, 13, 38, 39, 2, 40, 41, 42, 43, 177, 178, 179, 180, 181, 182, 183, 184, 185, 186] (by decide +kernel) (by decide +kernel)
set_option maxRecDepth 20000 in
theorem gL_law_X0_read : GoodIn wsL_law (wsV RL 18 RX0 yX0_read wsX0_read) := goodIn_app (goodIn_of _ (by decide +kernel)) ggL_law_X0_read
set_option maxRecDepth 20000 in
theorem ggL_law_X1_read : GoodIn wsL_law wsX1_read := goodIn_r _ [62, 48, 29, 49, 50, 5, 51, 52, 53, 54, 187, 188, 189, 190, 191, 192, 193, 194, 195, 196] (by decide +kernel) (by decide +kernel)
set_option maxRecDepth 20000 in
theorem gL_law_X1_read : GoodIn wsL_law (wsV RL 22 RX1 yX1_read wsX1_read) := goodIn_app (goodIn_of _ (by decide +kernel)) ggL_law_X1_read
set_option maxRecDepth 20000 in
theorem ggL_law_X0_disk : GoodIn wsL_law wsX0_disk := goodIn_r _ [66, 14, 38, 39, 2, 40, 41, 42, 43, 177, 178, 179, 180, 181, 182, 183, 184, 185, 186] (by decide +kernel) (by decide +kernel)
set_option maxRecDepth 20000 in
theorem gL_law_X0_disk : GoodIn wsL_law (wsV RL 23 RX0 yX0_disk wsX0_disk) := goodIn_app (goodIn_of _ (by decide +kernel)) ggL_law_X0_disk
set_option maxRecDepth 20000 in
theorem ggL_law_X1_disk : GoodIn wsL_law wsX1_disk := goodIn_r _ [70, 30, 49, 50, 5, 51, 52, 53, 54, 187, 188, 189, 190, 191, 192, 193, 194, 195, 196] (by decide +kernel) (by decide +kernel)
set_option maxRecDepth 20000 in
theorem gL_law_X1_disk : GoodIn wsL_law (wsV RL 26 RX1 yX1_disk wsX1_disk) := goodIn_app (goodIn_of _ (by decide +kernel)) ggL_law_X1_disk
set_option maxRecDepth 20000 in
theorem ggL_law_X0_dirty : GoodIn wsL_law wsX0_dirty := goodIn_r _ [74, 19, 17, 38, 39, 2, 40, 177, 178, 179, 180, 181, 182, 183, 184, 185, 186] (by decide +kernel) (by decide +kernel)
set_option maxRecDepth 20000 in
theorem gL_law_X0_dirty : GoodIn wsL_law (wsV RL 27 RX0 yX0_dirty wsX0_dirty) := goodIn_app (goodIn_of _ (by decide +kernel)) ggL_law_X0_dirty
set_option maxRecDepth 20000 in
theorem ggL_law_X1_dirty : GoodIn wsL_law wsX1_dirty := goodIn_r _ [78, 48, 32, 52, 53, 5, 54, 187, 188, 189, 190, 191, 192, 193, 194, 195, 196] (by decide +kernel) (by decide +kernel)
set_option maxRecDepth 20000 in
theorem gL_law_X1_dirty : GoodIn wsL_law (wsV RL 31 RX1 yX1_dirty wsX1_dirty) := goodIn_app (goodIn_of _ (by decide +kernel)) ggL_law_X1_dirty
set_option maxRecDepth 20000 in
theorem ggL_law_X0_commit : GoodIn wsL_law wsX0_commit := goodIn_r _ [82, 19, 21, 20, 83, 84, 85, 2, 86, 22, 23, 87, 88, 89, 90, 17, 91, 92, 93, 94, 18, 13, 15, 95, 96, 97, 98, 99, 100, 101, 102, 103, 104, 105, 106, 107, 108, 109, 14, 177, 178, 179, 180, 181, 182, 183, 184, 185, 186] (by decide +kernel) (by decide +kernel)
set_option maxRecDepth 20000 in
theorem gL_law_X0_commit : GoodIn wsL_law (wsV RL 32 RX0 yX0_commit wsX0_commit) := goodIn_app (goodIn_of _ (by decide +kernel)) ggL_law_X0_commit
set_option maxRecDepth 20000 in
theorem ggL_law_X1_commit : GoodIn wsL_law wsX1_commit := goodIn_r _ [113, 48, 114, 115, 116, 117, 32, 118, 119, 120, 5, 121, 122, 123, 124, 125, 33, 29, 31, 126, 127, 128, 129, 130, 131, 132, 30, 187, 188, 189, 190, 191, 192, 193, 194, 195, 196] (by decide +kernel) (by decide +kernel)
set_option maxRecDepth 20000 in
theorem gL_law_X1_commit : GoodIn wsL_law (wsV RL 36 RX1 yX1_commit wsX1_commit) := goodIn_app (goodIn_of _ (by decide +kernel)) ggL_law_X1_commit
set_option maxRecDepth 20000 in
theorem ggL_law_X0_revert : GoodIn wsL_law wsX0_revert := goodIn_r _ [136, 19, 137, 138, 139, 2, 140, 14, 13, 98, 99, 100, 101, 102, 103, 104, 105, 17, 177, 178, 179, 180, 181, 182, 183, 184, 185, 186] (by decide +kernel) (by decide +kernel)
set_option maxRecDepth 20000 in
theorem gL_law_X0_revert : GoodIn wsL_law (wsV RL 37 RX0 yX0_revert wsX0_revert) := goodIn_app (goodIn_of _ (by decide +kernel)) ggL_law_X0_revert
set_option maxRecDepth 20000 in
theorem ggL_law_X1_revert : GoodIn wsL_law wsX1_revert := goodIn_r _ [144, 48, 145, 146, 147, 5, 148, 30, 29, 32, 126, 127, 128, 187, 188, 189, 190, 191, 192, 193, 194, 195, 196] (by decide +kernel) (by decide +kernel)
set_option maxRecDepth 20000 in
theorem gL_law_X1_revert : GoodIn wsL_law (wsV RL 40 RX1 yX1_revert wsX1_revert) := goodIn_app (goodIn_of _ (by decide +kernel)) ggL_law_X1_revert
set_option maxRecDepth 20000 in
theorem ggL_law_X0_cut : GoodIn wsL_law wsX0_cut := goodIn_r _ [152, 19, 22, 23, 177, 178, 179, 180, 181, 182, 183, 184, 185, 186] (by decide +kernel) (by decide +kernel)
set_option maxRecDepth 20000 in
theorem gL_law_X0_cut : GoodIn wsL_law (wsV RL 41 RX0 yX0_cut wsX0_cut) := goodIn_app (goodIn_of _ (by decide +kernel)) ggL_law_X0_cut
set_option maxRecDepth 20000 in
theorem ggL_law_X1_cut : GoodIn wsL_law wsX1_cut := goodIn_r _ [156, 48, 115, 116, 52, 53, 5, 54, 187, 188, 189, 190, 191, 192, 193, 194, 195, 196] (by decide +kernel) (by decide +kernel)
set_option maxRecDepth 20000 in
theorem gL_law_X1_cut : GoodIn wsL_law (wsV RL 45 RX1 yX1_cut wsX1_cut) := goodIn_app (goodIn_of _ (by decide +kernel)) ggL_law_X1_cut
set_option maxRecDepth 20000 in
theorem ggL_law_X0_start : GoodIn wsL_law wsX0_start := goodIn_r _ [160, 19, 20, 21, 106, 107, 108, 2, 109, 18, 15, 14, 95, 96, 97, 98, 99, 100, 101, 137, 138, 139, 140, 13, 102, 103, 104, 105, 17, 177, 178, 179, 180, 181, 182, 183, 184, 185, 186] (by decide +kernel) (by decide +kernel)
set_option maxRecDepth 20000 in
theorem gL_law_X0_start : GoodIn wsL_law (wsV RL 46 RX0 yX0_start wsX0_start) := goodIn_app (goodIn_of _ (by decide +kernel)) ggL_law_X0_start
set_option maxRecDepth 20000 in
theorem ggL_law_X1_start : GoodIn wsL_law wsX1_start := goodIn_r _ [164, 48, 117, 52, 53, 5, 54, 165, 166, 167, 168, 33, 129, 130, 131, 132, 31, 30, 126, 127, 128, 145, 146, 147, 148, 29, 32, 187, 188, 189, 190, 191, 192, 193, 194, 195, 196] (by decide +kernel) (by decide +kernel)
set_option maxRecDepth 20000 in
theorem gL_law_X1_start : GoodIn wsL_law (wsV RL 49 RX1 yX1_start wsX1_start) := goodIn_app (goodIn_of _ (by decide +kernel)) ggL_law_X1_start
set_option maxRecDepth 20000 in
theorem ggL_law_X0_state : GoodIn wsL_law wsX0_state := goodIn_r _ [172, 19, 20, 21, 177, 178, 179, 180, 181, 182, 183, 184, 185, 186] (by decide +kernel) (by decide +kernel)
set_option maxRecDepth 20000 in
theorem gL_law_X0_state : GoodIn wsL_law (wsV RL 50 RX0 yX0_state wsX0_state) := goodIn_app (goodIn_of _ (by decide +kernel)) ggL_law_X0_state
set_option maxRecDepth 20000 in
theorem ggL_law_X1_state : GoodIn wsL_law wsX1_state := goodIn_r _ [176, 48, 117, 114, 187, 188, 189, 190, 191, 192, 193, 194, 195, 196] (by decide +kernel) (by decide +kernel)
set_option maxRecDepth 20000 in
theorem gL_law_X1_state : GoodIn wsL_law (wsV RL 54 RX1 yX1_state wsX1_state) := goodIn_app (goodIn_of _ (by decide +kernel)) ggL_law_X1_state
theorem dL_law_0 : decode cL_law 0 = .ok (.new 7, 3) := by decide +kernel
theorem dL_law_3 : decode cL_law 3 = .ok (.dup, 1) := by decide +kernel
theorem dL_law_4 : decode cL_law 4 = .ok (.invokespecial 9, 3) := by decide +kernel
theorem dL_law_7 : decode cL_law 7 = .ok (.astore_n 1, 1) := by decide +kernel
theorem dL_law_8 : decode cL_law 8 = .ok (.new 10, 3) := by decide +kernel
theorem dL_law_11 : decode cL_law 11 = .ok (.dup, 1) := by decide +kernel
theorem dL_law_12 : decode cL_law 12 = .ok (.invokespecial 12, 3) := by decide +kernel
theorem dL_law_15 : decode cL_law 15 = .ok (.astore_n 2, 1) := by decide +kernel
theorem dL_law_16 : decode cL_law 16 = .ok (.iconst 0, 1) := by decide +kernel
theorem dL_law_17 : decode cL_law 17 = .ok (.istore_n 3, 1) := by decide +kernel
theorem dL_law_18 : decode cL_law 18 = .ok (.iload_n 3, 1) := by decide +kernel
theorem dL_law_19 : decode cL_law 19 = .ok (.aload_n 0, 1) := by decide +kernel
theorem dL_law_20 : decode cL_law 20 = .ok (.arraylength, 1) := by decide +kernel
theorem dL_law_21 : decode cL_law 21 = .ok (.iconst 4, 1) := by decide +kernel
theorem dL_law_22 : decode cL_law 22 = .ok (.isub, 1) := by decide +kernel
theorem dL_law_23 : decode cL_law 23 = .ok (.if_icmp .gt 304, 3) := by decide +kernel
theorem dL_law_26 : decode cL_law 26 = .ok (.aload_n 0, 1) := by decide +kernel
theorem dL_law_27 : decode cL_law 27 = .ok (.iload_n 3, 1) := by decide +kernel
theorem dL_law_28 : decode cL_law 28 = .ok (.iaload, 1) := by decide +kernel
theorem dL_law_29 : decode cL_law 29 = .ok (.bipush 15, 2) := by decide +kernel
theorem dL_law_31 : decode cL_law 31 = .ok (.iand, 1) := by decide +kernel
theorem dL_law_32 : decode cL_law 32 = .ok (.tableswitch 289 0 8 #[52, 95, 128, 161, 184, 197, 210, 243, 266], 52) := by decide +kernel
theorem dL_law_84 : decode cL_law 84 = .ok (.aload_n 1, 1) := by decide +kernel
theorem dL_law_85 : decode cL_law 85 = .ok (.aload_n 0, 1) := by decide +kernel
theorem dL_law_86 : decode cL_law 86 = .ok (.iload_n 3, 1) := by decide +kernel
theorem dL_law_87 : decode cL_law 87 = .ok (.iconst 1, 1) := by decide +kernel
theorem dL_law_88 : decode cL_law 88 = .ok (.iadd, 1) := by decide +kernel
theorem dL_law_89 : decode cL_law 89 = .ok (.iaload, 1) := by decide +kernel
theorem dL_law_90 : decode cL_law 90 = .ok (.aload_n 0, 1) := by decide +kernel
theorem dL_law_91 : decode cL_law 91 = .ok (.iload_n 3, 1) := by decide +kernel
theorem dL_law_92 : decode cL_law 92 = .ok (.iconst 2, 1) := by decide +kernel
theorem dL_law_93 : decode cL_law 93 = .ok (.iadd, 1) := by decide +kernel
theorem dL_law_94 : decode cL_law 94 = .ok (.iaload, 1) := by decide +kernel
theorem dL_law_95 : decode cL_law 95 = .ok (.aload_n 0, 1) := by decide +kernel
theorem dL_law_96 : decode cL_law 96 = .ok (.iload_n 3, 1) := by decide +kernel
theorem dL_law_97 : decode cL_law 97 = .ok (.iconst 3, 1) := by decide +kernel
theorem dL_law_98 : decode cL_law 98 = .ok (.iadd, 1) := by decide +kernel
theorem dL_law_99 : decode cL_law 99 = .ok (.iaload, 1) := by decide +kernel
theorem dL_law_100 : decode cL_law 100 = .ok (.invokevirtual 13, 3) := by decide +kernel
theorem dL_law_103 : decode cL_law 103 = .ok (.aload_n 2, 1) := by decide +kernel
theorem dL_law_104 : decode cL_law 104 = .ok (.aload_n 0, 1) := by decide +kernel
theorem dL_law_105 : decode cL_law 105 = .ok (.iload_n 3, 1) := by decide +kernel
theorem dL_law_106 : decode cL_law 106 = .ok (.iconst 1, 1) := by decide +kernel
theorem dL_law_107 : decode cL_law 107 = .ok (.iadd, 1) := by decide +kernel
theorem dL_law_108 : decode cL_law 108 = .ok (.iaload, 1) := by decide +kernel
theorem dL_law_109 : decode cL_law 109 = .ok (.aload_n 0, 1) := by decide +kernel
theorem dL_law_110 : decode cL_law 110 = .ok (.iload_n 3, 1) := by decide +kernel
theorem dL_law_111 : decode cL_law 111 = .ok (.iconst 2, 1) := by decide +kernel
theorem dL_law_112 : decode cL_law 112 = .ok (.iadd, 1) := by decide +kernel
theorem dL_law_113 : decode cL_law 113 = .ok (.iaload, 1) := by decide +kernel
theorem dL_law_114 : decode cL_law 114 = .ok (.aload_n 0, 1) := by decide +kernel
theorem dL_law_115 : decode cL_law 115 = .ok (.iload_n 3, 1) := by decide +kernel
theorem dL_law_116 : decode cL_law 116 = .ok (.iconst 3, 1) := by decide +kernel
theorem dL_law_117 : decode cL_law 117 = .ok (.iadd, 1) := by decide +kernel
theorem dL_law_118 : decode cL_law 118 = .ok (.iaload, 1) := by decide +kernel
theorem dL_law_119 : decode cL_law 119 = .ok (.invokevirtual 17, 3) := by decide +kernel
theorem dL_law_122 : decode cL_law 122 = .ok (.if_icmp .eq 199, 3) := by decide +kernel
theorem dL_law_125 : decode cL_law 125 = .ok (.iconst 0, 1) := by decide +kernel
theorem dL_law_126 : decode cL_law 126 = .ok (.ireturn, 1) := by decide +kernel
theorem dL_law_127 : decode cL_law 127 = .ok (.aload_n 1, 1) := by decide +kernel
theorem dL_law_128 : decode cL_law 128 = .ok (.aload_n 0, 1) := by decide +kernel
theorem dL_law_129 : decode cL_law 129 = .ok (.iload_n 3, 1) := by decide +kernel
theorem dL_law_130 : decode cL_law 130 = .ok (.iconst 1, 1) := by decide +kernel
theorem dL_law_131 : decode cL_law 131 = .ok (.iadd, 1) := by decide +kernel
theorem dL_law_132 : decode cL_law 132 = .ok (.iaload, 1) := by decide +kernel
theorem dL_law_133 : decode cL_law 133 = .ok (.aload_n 0, 1) := by decide +kernel
theorem dL_law_134 : decode cL_law 134 = .ok (.iload_n 3, 1) := by decide +kernel
theorem dL_law_135 : decode cL_law 135 = .ok (.iconst 2, 1) := by decide +kernel
theorem dL_law_136 : decode cL_law 136 = .ok (.iadd, 1) := by decide +kernel
theorem dL_law_137 : decode cL_law 137 = .ok (.iaload, 1) := by decide +kernel
theorem dL_law_138 : decode cL_law 138 = .ok (.invokevirtual 18, 3) := by decide +kernel
theorem dL_law_141 : decode cL_law 141 = .ok (.aload_n 2, 1) := by decide +kernel
theorem dL_law_142 : decode cL_law 142 = .ok (.aload_n 0, 1) := by decide +kernel
theorem dL_law_143 : decode cL_law 143 = .ok (.iload_n 3, 1) := by decide +kernel
theorem dL_law_144 : decode cL_law 144 = .ok (.iconst 1, 1) := by decide +kernel
theorem dL_law_145 : decode cL_law 145 = .ok (.iadd, 1) := by decide +kernel
theorem dL_law_146 : decode cL_law 146 = .ok (.iaload, 1) := by decide +kernel
theorem dL_law_147 : decode cL_law 147 = .ok (.aload_n 0, 1) := by decide +kernel
theorem dL_law_148 : decode cL_law 148 = .ok (.iload_n 3, 1) := by decide +kernel
theorem dL_law_149 : decode cL_law 149 = .ok (.iconst 2, 1) := by decide +kernel
theorem dL_law_150 : decode cL_law 150 = .ok (.iadd, 1) := by decide +kernel
theorem dL_law_151 : decode cL_law 151 = .ok (.iaload, 1) := by decide +kernel
theorem dL_law_152 : decode cL_law 152 = .ok (.invokevirtual 22, 3) := by decide +kernel
theorem dL_law_155 : decode cL_law 155 = .ok (.if_icmp .eq 166, 3) := by decide +kernel
theorem dL_law_158 : decode cL_law 158 = .ok (.iconst 0, 1) := by decide +kernel
theorem dL_law_159 : decode cL_law 159 = .ok (.ireturn, 1) := by decide +kernel
theorem dL_law_160 : decode cL_law 160 = .ok (.aload_n 1, 1) := by decide +kernel
theorem dL_law_161 : decode cL_law 161 = .ok (.aload_n 0, 1) := by decide +kernel
theorem dL_law_162 : decode cL_law 162 = .ok (.iload_n 3, 1) := by decide +kernel
theorem dL_law_163 : decode cL_law 163 = .ok (.iconst 1, 1) := by decide +kernel
theorem dL_law_164 : decode cL_law 164 = .ok (.iadd, 1) := by decide +kernel
theorem dL_law_165 : decode cL_law 165 = .ok (.iaload, 1) := by decide +kernel
theorem dL_law_166 : decode cL_law 166 = .ok (.aload_n 0, 1) := by decide +kernel
theorem dL_law_167 : decode cL_law 167 = .ok (.iload_n 3, 1) := by decide +kernel
theorem dL_law_168 : decode cL_law 168 = .ok (.iconst 2, 1) := by decide +kernel
theorem dL_law_169 : decode cL_law 169 = .ok (.iadd, 1) := by decide +kernel
theorem dL_law_170 : decode cL_law 170 = .ok (.iaload, 1) := by decide +kernel
theorem dL_law_171 : decode cL_law 171 = .ok (.invokevirtual 23, 3) := by decide +kernel
theorem dL_law_174 : decode cL_law 174 = .ok (.aload_n 2, 1) := by decide +kernel
theorem dL_law_175 : decode cL_law 175 = .ok (.aload_n 0, 1) := by decide +kernel
theorem dL_law_176 : decode cL_law 176 = .ok (.iload_n 3, 1) := by decide +kernel
theorem dL_law_177 : decode cL_law 177 = .ok (.iconst 1, 1) := by decide +kernel
theorem dL_law_178 : decode cL_law 178 = .ok (.iadd, 1) := by decide +kernel
theorem dL_law_179 : decode cL_law 179 = .ok (.iaload, 1) := by decide +kernel
theorem dL_law_180 : decode cL_law 180 = .ok (.aload_n 0, 1) := by decide +kernel
theorem dL_law_181 : decode cL_law 181 = .ok (.iload_n 3, 1) := by decide +kernel
theorem dL_law_182 : decode cL_law 182 = .ok (.iconst 2, 1) := by decide +kernel
theorem dL_law_183 : decode cL_law 183 = .ok (.iadd, 1) := by decide +kernel
theorem dL_law_184 : decode cL_law 184 = .ok (.iaload, 1) := by decide +kernel
theorem dL_law_185 : decode cL_law 185 = .ok (.invokevirtual 26, 3) := by decide +kernel
theorem dL_law_188 : decode cL_law 188 = .ok (.if_icmp .eq 133, 3) := by decide +kernel
theorem dL_law_191 : decode cL_law 191 = .ok (.iconst 0, 1) := by decide +kernel
theorem dL_law_192 : decode cL_law 192 = .ok (.ireturn, 1) := by decide +kernel
theorem dL_law_193 : decode cL_law 193 = .ok (.aload_n 1, 1) := by decide +kernel
theorem dL_law_194 : decode cL_law 194 = .ok (.aload_n 0, 1) := by decide +kernel
theorem dL_law_195 : decode cL_law 195 = .ok (.iload_n 3, 1) := by decide +kernel
theorem dL_law_196 : decode cL_law 196 = .ok (.iconst 1, 1) := by decide +kernel
theorem dL_law_197 : decode cL_law 197 = .ok (.iadd, 1) := by decide +kernel
theorem dL_law_198 : decode cL_law 198 = .ok (.iaload, 1) := by decide +kernel
theorem dL_law_199 : decode cL_law 199 = .ok (.invokevirtual 27, 3) := by decide +kernel
theorem dL_law_202 : decode cL_law 202 = .ok (.aload_n 2, 1) := by decide +kernel
theorem dL_law_203 : decode cL_law 203 = .ok (.aload_n 0, 1) := by decide +kernel
theorem dL_law_204 : decode cL_law 204 = .ok (.iload_n 3, 1) := by decide +kernel
theorem dL_law_205 : decode cL_law 205 = .ok (.iconst 1, 1) := by decide +kernel
theorem dL_law_206 : decode cL_law 206 = .ok (.iadd, 1) := by decide +kernel
theorem dL_law_207 : decode cL_law 207 = .ok (.iaload, 1) := by decide +kernel
theorem dL_law_208 : decode cL_law 208 = .ok (.invokevirtual 31, 3) := by decide +kernel
theorem dL_law_211 : decode cL_law 211 = .ok (.if_icmp .eq 110, 3) := by decide +kernel
theorem dL_law_214 : decode cL_law 214 = .ok (.iconst 0, 1) := by decide +kernel
theorem dL_law_215 : decode cL_law 215 = .ok (.ireturn, 1) := by decide +kernel
theorem dL_law_216 : decode cL_law 216 = .ok (.aload_n 1, 1) := by decide +kernel
theorem dL_law_217 : decode cL_law 217 = .ok (.invokevirtual 32, 3) := by decide +kernel
theorem dL_law_220 : decode cL_law 220 = .ok (.aload_n 2, 1) := by decide +kernel
theorem dL_law_221 : decode cL_law 221 = .ok (.invokevirtual 36, 3) := by decide +kernel
theorem dL_law_224 : decode cL_law 224 = .ok (.if_icmp .eq 97, 3) := by decide +kernel
theorem dL_law_227 : decode cL_law 227 = .ok (.iconst 0, 1) := by decide +kernel
theorem dL_law_228 : decode cL_law 228 = .ok (.ireturn, 1) := by decide +kernel
theorem dL_law_229 : decode cL_law 229 = .ok (.aload_n 1, 1) := by decide +kernel
theorem dL_law_230 : decode cL_law 230 = .ok (.invokevirtual 37, 3) := by decide +kernel
theorem dL_law_233 : decode cL_law 233 = .ok (.aload_n 2, 1) := by decide +kernel
theorem dL_law_234 : decode cL_law 234 = .ok (.invokevirtual 40, 3) := by decide +kernel
theorem dL_law_237 : decode cL_law 237 = .ok (.if_icmp .eq 84, 3) := by decide +kernel
theorem dL_law_240 : decode cL_law 240 = .ok (.iconst 0, 1) := by decide +kernel
theorem dL_law_241 : decode cL_law 241 = .ok (.ireturn, 1) := by decide +kernel
theorem dL_law_242 : decode cL_law 242 = .ok (.aload_n 1, 1) := by decide +kernel
theorem dL_law_243 : decode cL_law 243 = .ok (.aload_n 0, 1) := by decide +kernel
theorem dL_law_244 : decode cL_law 244 = .ok (.iload_n 3, 1) := by decide +kernel
theorem dL_law_245 : decode cL_law 245 = .ok (.iconst 1, 1) := by decide +kernel
theorem dL_law_246 : decode cL_law 246 = .ok (.iadd, 1) := by decide +kernel
theorem dL_law_247 : decode cL_law 247 = .ok (.iaload, 1) := by decide +kernel
theorem dL_law_248 : decode cL_law 248 = .ok (.aload_n 0, 1) := by decide +kernel
theorem dL_law_249 : decode cL_law 249 = .ok (.iload_n 3, 1) := by decide +kernel
theorem dL_law_250 : decode cL_law 250 = .ok (.iconst 2, 1) := by decide +kernel
theorem dL_law_251 : decode cL_law 251 = .ok (.iadd, 1) := by decide +kernel
theorem dL_law_252 : decode cL_law 252 = .ok (.iaload, 1) := by decide +kernel
theorem dL_law_253 : decode cL_law 253 = .ok (.invokevirtual 41, 3) := by decide +kernel
theorem dL_law_256 : decode cL_law 256 = .ok (.aload_n 2, 1) := by decide +kernel
theorem dL_law_257 : decode cL_law 257 = .ok (.aload_n 0, 1) := by decide +kernel
theorem dL_law_258 : decode cL_law 258 = .ok (.iload_n 3, 1) := by decide +kernel
theorem dL_law_259 : decode cL_law 259 = .ok (.iconst 1, 1) := by decide +kernel
theorem dL_law_260 : decode cL_law 260 = .ok (.iadd, 1) := by decide +kernel
theorem dL_law_261 : decode cL_law 261 = .ok (.iaload, 1) := by decide +kernel
theorem dL_law_262 : decode cL_law 262 = .ok (.aload_n 0, 1) := by decide +kernel
theorem dL_law_263 : decode cL_law 263 = .ok (.iload_n 3, 1) := by decide +kernel
theorem dL_law_264 : decode cL_law 264 = .ok (.iconst 2, 1) := by decide +kernel
theorem dL_law_265 : decode cL_law 265 = .ok (.iadd, 1) := by decide +kernel
theorem dL_law_266 : decode cL_law 266 = .ok (.iaload, 1) := by decide +kernel
theorem dL_law_267 : decode cL_law 267 = .ok (.invokevirtual 45, 3) := by decide +kernel
theorem dL_law_270 : decode cL_law 270 = .ok (.if_icmp .eq 51, 3) := by decide +kernel
theorem dL_law_273 : decode cL_law 273 = .ok (.iconst 0, 1) := by decide +kernel
theorem dL_law_274 : decode cL_law 274 = .ok (.ireturn, 1) := by decide +kernel
theorem dL_law_275 : decode cL_law 275 = .ok (.aload_n 1, 1) := by decide +kernel
theorem dL_law_276 : decode cL_law 276 = .ok (.aload_n 0, 1) := by decide +kernel
theorem dL_law_277 : decode cL_law 277 = .ok (.iload_n 3, 1) := by decide +kernel
theorem dL_law_278 : decode cL_law 278 = .ok (.iconst 1, 1) := by decide +kernel
theorem dL_law_279 : decode cL_law 279 = .ok (.iadd, 1) := by decide +kernel
theorem dL_law_280 : decode cL_law 280 = .ok (.iaload, 1) := by decide +kernel
theorem dL_law_281 : decode cL_law 281 = .ok (.invokevirtual 46, 3) := by decide +kernel
theorem dL_law_284 : decode cL_law 284 = .ok (.aload_n 2, 1) := by decide +kernel
theorem dL_law_285 : decode cL_law 285 = .ok (.aload_n 0, 1) := by decide +kernel
theorem dL_law_286 : decode cL_law 286 = .ok (.iload_n 3, 1) := by decide +kernel
theorem dL_law_287 : decode cL_law 287 = .ok (.iconst 1, 1) := by decide +kernel
theorem dL_law_288 : decode cL_law 288 = .ok (.iadd, 1) := by decide +kernel
theorem dL_law_289 : decode cL_law 289 = .ok (.iaload, 1) := by decide +kernel
theorem dL_law_290 : decode cL_law 290 = .ok (.invokevirtual 49, 3) := by decide +kernel
theorem dL_law_293 : decode cL_law 293 = .ok (.if_icmp .eq 28, 3) := by decide +kernel
theorem dL_law_296 : decode cL_law 296 = .ok (.iconst 0, 1) := by decide +kernel
theorem dL_law_297 : decode cL_law 297 = .ok (.ireturn, 1) := by decide +kernel
theorem dL_law_298 : decode cL_law 298 = .ok (.aload_n 1, 1) := by decide +kernel
theorem dL_law_299 : decode cL_law 299 = .ok (.aload_n 0, 1) := by decide +kernel
theorem dL_law_300 : decode cL_law 300 = .ok (.iload_n 3, 1) := by decide +kernel
theorem dL_law_301 : decode cL_law 301 = .ok (.iconst 1, 1) := by decide +kernel
theorem dL_law_302 : decode cL_law 302 = .ok (.iadd, 1) := by decide +kernel
theorem dL_law_303 : decode cL_law 303 = .ok (.iaload, 1) := by decide +kernel
theorem dL_law_304 : decode cL_law 304 = .ok (.invokevirtual 50, 3) := by decide +kernel
theorem dL_law_307 : decode cL_law 307 = .ok (.aload_n 2, 1) := by decide +kernel
theorem dL_law_308 : decode cL_law 308 = .ok (.aload_n 0, 1) := by decide +kernel
theorem dL_law_309 : decode cL_law 309 = .ok (.iload_n 3, 1) := by decide +kernel
theorem dL_law_310 : decode cL_law 310 = .ok (.iconst 1, 1) := by decide +kernel
theorem dL_law_311 : decode cL_law 311 = .ok (.iadd, 1) := by decide +kernel
theorem dL_law_312 : decode cL_law 312 = .ok (.iaload, 1) := by decide +kernel
theorem dL_law_313 : decode cL_law 313 = .ok (.invokevirtual 54, 3) := by decide +kernel
theorem dL_law_316 : decode cL_law 316 = .ok (.if_icmp .eq 5, 3) := by decide +kernel
theorem dL_law_319 : decode cL_law 319 = .ok (.iconst 0, 1) := by decide +kernel
theorem dL_law_320 : decode cL_law 320 = .ok (.ireturn, 1) := by decide +kernel
theorem dL_law_321 : decode cL_law 321 = .ok (.iinc 3 4, 3) := by decide +kernel
theorem dL_law_324 : decode cL_law 324 = .ok (.goto (-306), 3) := by decide +kernel
theorem dL_law_327 : decode cL_law 327 = .ok (.iconst 1, 1) := by decide +kernel
theorem dL_law_328 : decode cL_law 328 = .ok (.ireturn, 1) := by decide +kernel
abbrev vwCl : List vw_C := [(RX0, TX0, 10), (RX1, TX1, 10)]
