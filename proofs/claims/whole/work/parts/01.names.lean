/-! names: classes, fields, methods, and the places of their words in lw_tbl -/
def lw_g : List Cond := lw_tbl.filter goodWord
theorem k_g {w : Cond} (h : w ∈ lw_tbl) (hg : goodWord w = true) : w ∈ lw_g := List.mem_filter.mpr ⟨h, hg⟩
theorem lw_all : ∀ w ∈ lw_g, goodWord w = true := fun w h => (List.mem_filter.mp h).2
def R_A : String := "DualParityArray"
def R_D : String := "DualParityArray$Disks"
def R_L : String := "DualParityArray$Log"
def R_S : String := "DualParityArray$Stripe"
def R_W : String := "DualParityArray$Words"
def R_M : String := "DualParityArrayModel"
def R_Z : String := "DualParityArrayLaw"
def T_D : u_T := fun k => match k with
  | 0 => ("DualParityArray$Disks", "count", "I", true)
  | 1 => ("DualParityArray$Disks", "stripes", "I", true)
  | 2 => ("DualParityArray$Disks", "words", "[I", true)
  | _ => ("DualParityArray$Disks", "positions", "[I", true)
def ty_D : Nat → FieldType := fun k => match k with
  | 0 => .int
  | 1 => .int
  | 2 => .array .int
  | _ => .array .int
theorem nm_D : ∀ a, a < 4 → ∀ b, b < 4 → a ≠ b → (T_D a).2.1 ≠ (T_D b).2.1 := by decide +kernel
theorem tyok_D : ∀ k, k < 4 → parseFieldDescriptor (T_D k).2.2.1 = some (ty_D k) := by decide +kernel
theorem in_D : ∀ w ∈ u_ws R_D T_D 4, w ∈ lw_g := by decide +kernel
def T_L : u_T := fun k => match k with
  | 0 => ("DualParityArray$Log", "words", "[I", true)
  | 1 => ("DualParityArray$Log", "stripe", "I", false)
  | 2 => ("DualParityArray$Log", "firstColumn", "I", false)
  | _ => ("DualParityArray$Log", "columnCount", "I", false)
def ty_L : Nat → FieldType := fun k => match k with
  | 0 => .array .int
  | 1 => .int
  | 2 => .int
  | _ => .int
theorem nm_L : ∀ a, a < 4 → ∀ b, b < 4 → a ≠ b → (T_L a).2.1 ≠ (T_L b).2.1 := by decide +kernel
theorem tyok_L : ∀ k, k < 4 → parseFieldDescriptor (T_L k).2.2.1 = some (ty_L k) := by decide +kernel
theorem in_L : ∀ w ∈ u_ws R_L T_L 4, w ∈ lw_g := by decide +kernel
def T_S : u_T := fun k => match k with
  | 0 => ("DualParityArray$Stripe", "columns", "I", true)
  | 1 => ("DualParityArray$Stripe", "slotP", "I", true)
  | 2 => ("DualParityArray$Stripe", "slotQ", "I", true)
  | _ => ("DualParityArray$Stripe", "values", "[I", true)
def ty_S : Nat → FieldType := fun k => match k with
  | 0 => .int
  | 1 => .int
  | 2 => .int
  | _ => .array .int
theorem nm_S : ∀ a, a < 4 → ∀ b, b < 4 → a ≠ b → (T_S a).2.1 ≠ (T_S b).2.1 := by decide +kernel
theorem tyok_S : ∀ k, k < 4 → parseFieldDescriptor (T_S k).2.2.1 = some (ty_S k) := by decide +kernel
theorem in_S : ∀ w ∈ u_ws R_S T_S 4, w ∈ lw_g := by decide +kernel
def T_A : u_T := fun k => match k with
  | 0 => ("DualParityArray", "stripeCount", "I", true)
  | 1 => ("DualParityArray", "columnCount", "I", true)
  | 2 => ("DualParityArray", "disks", "LDualParityArray$Disks;", true)
  | 3 => ("DualParityArray", "log", "LDualParityArray$Log;", true)
  | 4 => ("DualParityArray", "stripe", "LDualParityArray$Stripe;", true)
  | 5 => ("DualParityArray", "sparesLeft", "I", false)
  | 6 => ("DualParityArray", "down", "Z", false)
  | 7 => ("DualParityArray", "actsUntilStop", "I", false)
  | 8 => ("DualParityArray", "actsMade", "I", false)
  | 9 => ("DualParityArray", "readCount", "I", false)
  | _ => ("DualParityArray", "writeCount", "I", false)
def ty_A : Nat → FieldType := fun k => match k with
  | 0 => .int
  | 1 => .int
  | 2 => .object "DualParityArray$Disks"
  | 3 => .object "DualParityArray$Log"
  | 4 => .object "DualParityArray$Stripe"
  | 5 => .int
  | 6 => .boolean
  | 7 => .int
  | 8 => .int
  | 9 => .int
  | _ => .int
theorem nm_A : ∀ a, a < 11 → ∀ b, b < 11 → a ≠ b → (T_A a).2.1 ≠ (T_A b).2.1 := by decide +kernel
theorem tyok_A : ∀ k, k < 11 → parseFieldDescriptor (T_A k).2.2.1 = some (ty_A k) := by decide +kernel
theorem in_A : ∀ w ∈ u_ws R_A T_A 11, w ∈ lw_g := by decide +kernel
def T_M : u_T := fun k => match k with
  | 0 => ("DualParityArrayModel", "n", "I", false)
  | 1 => ("DualParityArrayModel", "stripes", "I", false)
  | 2 => ("DualParityArrayModel", "left", "I", false)
  | 3 => ("DualParityArrayModel", "down", "Z", false)
  | 4 => ("DualParityArrayModel", "armed", "Z", false)
  | 5 => ("DualParityArrayModel", "until", "I", false)
  | 6 => ("DualParityArrayModel", "made", "I", false)
  | 7 => ("DualParityArrayModel", "readCount", "I", false)
  | 8 => ("DualParityArrayModel", "writeCount", "I", false)
  | 9 => ("DualParityArrayModel", "word", "[I", true)
  | 10 => ("DualParityArrayModel", "upTo", "[I", true)
  | 11 => ("DualParityArrayModel", "value", "[I", true)
  | 12 => ("DualParityArrayModel", "entry", "[I", true)
  | 13 => ("DualParityArrayModel", "sealed", "I", false)
  | 14 => ("DualParityArrayModel", "entryFirst", "I", false)
  | _ => ("DualParityArrayModel", "entryEnd", "I", false)
def ty_M : Nat → FieldType := fun k => match k with
  | 0 => .int
  | 1 => .int
  | 2 => .int
  | 3 => .boolean
  | 4 => .boolean
  | 5 => .int
  | 6 => .int
  | 7 => .int
  | 8 => .int
  | 9 => .array .int
  | 10 => .array .int
  | 11 => .array .int
  | 12 => .array .int
  | 13 => .int
  | 14 => .int
  | _ => .int
theorem nm_M : ∀ a, a < 16 → ∀ b, b < 16 → a ≠ b → (T_M a).2.1 ≠ (T_M b).2.1 := by decide +kernel
theorem tyok_M : ∀ k, k < 16 → parseFieldDescriptor (T_M k).2.2.1 = some (ty_M k) := by decide +kernel
theorem in_M : ∀ w ∈ u_ws R_M T_M 16, w ∈ lw_g := by decide +kernel
abbrev vwCl : List vw_C := [(R_D, T_D, 4), (R_L, T_L, 4), (R_S, T_S, 4), (R_A, T_A, 11), (R_M, T_M, 16)]
abbrev b_A_init : ByteArray := prog_1_method_1_code
def y_A_init : MethodName := ⟨R_A, "<init>", "(III)V"⟩
abbrev w_A_init : List Cond := Cond.code y_A_init b_A_init 5 none :: lw_g
set_option maxRecDepth 100000 in
theorem m_code_A_init : Cond.code y_A_init b_A_init 5 none ∈ lw_g := k_g (List.mem_of_getElem? (i := 43) rfl) rfl
theorem m_inst_A_init : Cond.instanceMethod y_A_init ∈ lw_g := k_g (List.mem_of_getElem? (i := 42) (by decide +kernel)) rfl
theorem h_A_init : y_A_init.cls ≠ "java/lang/invoke/MethodHandle" ∧ y_A_init.cls ≠ "java/lang/invoke/VarHandle" ∧ (parseMethodDescriptor y_A_init.desc).map (fun d => d.parameters.length) = some 3 := by decide +kernel
abbrev b_A_read : ByteArray := prog_1_method_2_code
def y_A_read : MethodName := ⟨R_A, "read", "(I)J"⟩
abbrev w_A_read : List Cond := Cond.code y_A_read b_A_read 6 (some .long) :: lw_g
set_option maxRecDepth 100000 in
theorem m_code_A_read : Cond.code y_A_read b_A_read 6 (some .long) ∈ lw_g := k_g (List.mem_of_getElem? (i := 151) rfl) rfl
theorem m_inst_A_read : Cond.instanceMethod y_A_read ∈ lw_g := k_g (List.mem_of_getElem? (i := 149) (by decide +kernel)) rfl
theorem m_sel_A_read : Cond.selects R_A y_A_read y_A_read ∈ lw_g := k_g (List.mem_of_getElem? (i := 150) (by decide +kernel)) rfl
theorem h_A_read : y_A_read.cls ≠ "java/lang/invoke/MethodHandle" ∧ y_A_read.cls ≠ "java/lang/invoke/VarHandle" ∧ (parseMethodDescriptor y_A_read.desc).map (fun d => d.parameters.length) = some 1 := by decide +kernel
abbrev b_A_write : ByteArray := prog_1_method_3_code
def y_A_write : MethodName := ⟨R_A, "write", "(II)I"⟩
abbrev w_A_write : List Cond := Cond.code y_A_write b_A_write 3 (some .int) :: lw_g
set_option maxRecDepth 100000 in
theorem m_code_A_write : Cond.code y_A_write b_A_write 3 (some .int) ∈ lw_g := k_g (List.mem_of_getElem? (i := 249) rfl) rfl
theorem m_inst_A_write : Cond.instanceMethod y_A_write ∈ lw_g := k_g (List.mem_of_getElem? (i := 247) (by decide +kernel)) rfl
theorem m_sel_A_write : Cond.selects R_A y_A_write y_A_write ∈ lw_g := k_g (List.mem_of_getElem? (i := 248) (by decide +kernel)) rfl
theorem h_A_write : y_A_write.cls ≠ "java/lang/invoke/MethodHandle" ∧ y_A_write.cls ≠ "java/lang/invoke/VarHandle" ∧ (parseMethodDescriptor y_A_write.desc).map (fun d => d.parameters.length) = some 2 := by decide +kernel
abbrev b_A_writeRun : ByteArray := prog_1_method_4_code
def y_A_writeRun : MethodName := ⟨R_A, "writeRun", "(III)I"⟩
abbrev w_A_writeRun : List Cond := Cond.code y_A_writeRun b_A_writeRun 11 (some .int) :: lw_g
set_option maxRecDepth 100000 in
theorem m_code_A_writeRun : Cond.code y_A_writeRun b_A_writeRun 11 (some .int) ∈ lw_g := k_g (List.mem_of_getElem? (i := 253) rfl) rfl
theorem m_inst_A_writeRun : Cond.instanceMethod y_A_writeRun ∈ lw_g := k_g (List.mem_of_getElem? (i := 251) (by decide +kernel)) rfl
theorem m_sel_A_writeRun : Cond.selects R_A y_A_writeRun y_A_writeRun ∈ lw_g := k_g (List.mem_of_getElem? (i := 252) (by decide +kernel)) rfl
theorem h_A_writeRun : y_A_writeRun.cls ≠ "java/lang/invoke/MethodHandle" ∧ y_A_writeRun.cls ≠ "java/lang/invoke/VarHandle" ∧ (parseMethodDescriptor y_A_writeRun.desc).map (fun d => d.parameters.length) = some 3 := by decide +kernel
abbrev b_A_fail : ByteArray := prog_1_method_5_code
def y_A_fail : MethodName := ⟨R_A, "fail", "(I)Z"⟩
abbrev w_A_fail : List Cond := Cond.code y_A_fail b_A_fail 2 (some .boolean) :: lw_g
set_option maxRecDepth 100000 in
theorem m_code_A_fail : Cond.code y_A_fail b_A_fail 2 (some .boolean) ∈ lw_g := k_g (List.mem_of_getElem? (i := 323) rfl) rfl
theorem m_inst_A_fail : Cond.instanceMethod y_A_fail ∈ lw_g := k_g (List.mem_of_getElem? (i := 321) (by decide +kernel)) rfl
theorem m_sel_A_fail : Cond.selects R_A y_A_fail y_A_fail ∈ lw_g := k_g (List.mem_of_getElem? (i := 322) (by decide +kernel)) rfl
theorem h_A_fail : y_A_fail.cls ≠ "java/lang/invoke/MethodHandle" ∧ y_A_fail.cls ≠ "java/lang/invoke/VarHandle" ∧ (parseMethodDescriptor y_A_fail.desc).map (fun d => d.parameters.length) = some 1 := by decide +kernel
abbrev b_A_replace : ByteArray := prog_1_method_6_code
def y_A_replace : MethodName := ⟨R_A, "replace", "(I)Z"⟩
abbrev w_A_replace : List Cond := Cond.code y_A_replace b_A_replace 2 (some .boolean) :: lw_g
set_option maxRecDepth 100000 in
theorem m_code_A_replace : Cond.code y_A_replace b_A_replace 2 (some .boolean) ∈ lw_g := k_g (List.mem_of_getElem? (i := 339) rfl) rfl
theorem m_inst_A_replace : Cond.instanceMethod y_A_replace ∈ lw_g := k_g (List.mem_of_getElem? (i := 337) (by decide +kernel)) rfl
theorem m_sel_A_replace : Cond.selects R_A y_A_replace y_A_replace ∈ lw_g := k_g (List.mem_of_getElem? (i := 338) (by decide +kernel)) rfl
theorem h_A_replace : y_A_replace.cls ≠ "java/lang/invoke/MethodHandle" ∧ y_A_replace.cls ≠ "java/lang/invoke/VarHandle" ∧ (parseMethodDescriptor y_A_replace.desc).map (fun d => d.parameters.length) = some 1 := by decide +kernel
abbrev b_A_rebuild : ByteArray := prog_1_method_7_code
def y_A_rebuild : MethodName := ⟨R_A, "rebuild", "()I"⟩
abbrev w_A_rebuild : List Cond := Cond.code y_A_rebuild b_A_rebuild 4 (some .int) :: lw_g
set_option maxRecDepth 100000 in
theorem m_code_A_rebuild : Cond.code y_A_rebuild b_A_rebuild 4 (some .int) ∈ lw_g := k_g (List.mem_of_getElem? (i := 347) rfl) rfl
theorem m_inst_A_rebuild : Cond.instanceMethod y_A_rebuild ∈ lw_g := k_g (List.mem_of_getElem? (i := 345) (by decide +kernel)) rfl
theorem m_sel_A_rebuild : Cond.selects R_A y_A_rebuild y_A_rebuild ∈ lw_g := k_g (List.mem_of_getElem? (i := 346) (by decide +kernel)) rfl
theorem h_A_rebuild : y_A_rebuild.cls ≠ "java/lang/invoke/MethodHandle" ∧ y_A_rebuild.cls ≠ "java/lang/invoke/VarHandle" ∧ (parseMethodDescriptor y_A_rebuild.desc).map (fun d => d.parameters.length) = some 0 := by decide +kernel
abbrev b_A_scrub : ByteArray := prog_1_method_8_code
def y_A_scrub : MethodName := ⟨R_A, "scrub", "(I)I"⟩
abbrev w_A_scrub : List Cond := Cond.code y_A_scrub b_A_scrub 5 (some .int) :: lw_g
set_option maxRecDepth 100000 in
theorem m_code_A_scrub : Cond.code y_A_scrub b_A_scrub 5 (some .int) ∈ lw_g := k_g (List.mem_of_getElem? (i := 368) rfl) rfl
theorem m_inst_A_scrub : Cond.instanceMethod y_A_scrub ∈ lw_g := k_g (List.mem_of_getElem? (i := 366) (by decide +kernel)) rfl
theorem m_sel_A_scrub : Cond.selects R_A y_A_scrub y_A_scrub ∈ lw_g := k_g (List.mem_of_getElem? (i := 367) (by decide +kernel)) rfl
theorem h_A_scrub : y_A_scrub.cls ≠ "java/lang/invoke/MethodHandle" ∧ y_A_scrub.cls ≠ "java/lang/invoke/VarHandle" ∧ (parseMethodDescriptor y_A_scrub.desc).map (fun d => d.parameters.length) = some 1 := by decide +kernel
abbrev b_A_corrupt : ByteArray := prog_1_method_9_code
def y_A_corrupt : MethodName := ⟨R_A, "corrupt", "(III)Z"⟩
abbrev w_A_corrupt : List Cond := Cond.code y_A_corrupt b_A_corrupt 4 (some .boolean) :: lw_g
set_option maxRecDepth 100000 in
theorem m_code_A_corrupt : Cond.code y_A_corrupt b_A_corrupt 4 (some .boolean) ∈ lw_g := k_g (List.mem_of_getElem? (i := 388) rfl) rfl
theorem m_inst_A_corrupt : Cond.instanceMethod y_A_corrupt ∈ lw_g := k_g (List.mem_of_getElem? (i := 386) (by decide +kernel)) rfl
theorem m_sel_A_corrupt : Cond.selects R_A y_A_corrupt y_A_corrupt ∈ lw_g := k_g (List.mem_of_getElem? (i := 387) (by decide +kernel)) rfl
theorem h_A_corrupt : y_A_corrupt.cls ≠ "java/lang/invoke/MethodHandle" ∧ y_A_corrupt.cls ≠ "java/lang/invoke/VarHandle" ∧ (parseMethodDescriptor y_A_corrupt.desc).map (fun d => d.parameters.length) = some 3 := by decide +kernel
abbrev b_A_arm : ByteArray := prog_1_method_10_code
def y_A_arm : MethodName := ⟨R_A, "arm", "(I)Z"⟩
abbrev w_A_arm : List Cond := Cond.code y_A_arm b_A_arm 2 (some .boolean) :: lw_g
set_option maxRecDepth 100000 in
theorem m_code_A_arm : Cond.code y_A_arm b_A_arm 2 (some .boolean) ∈ lw_g := k_g (List.mem_of_getElem? (i := 398) rfl) rfl
theorem m_inst_A_arm : Cond.instanceMethod y_A_arm ∈ lw_g := k_g (List.mem_of_getElem? (i := 396) (by decide +kernel)) rfl
theorem m_sel_A_arm : Cond.selects R_A y_A_arm y_A_arm ∈ lw_g := k_g (List.mem_of_getElem? (i := 397) (by decide +kernel)) rfl
theorem h_A_arm : y_A_arm.cls ≠ "java/lang/invoke/MethodHandle" ∧ y_A_arm.cls ≠ "java/lang/invoke/VarHandle" ∧ (parseMethodDescriptor y_A_arm.desc).map (fun d => d.parameters.length) = some 1 := by decide +kernel
abbrev b_A_crash : ByteArray := prog_1_method_11_code
def y_A_crash : MethodName := ⟨R_A, "crash", "()Z"⟩
abbrev w_A_crash : List Cond := Cond.code y_A_crash b_A_crash 1 (some .boolean) :: lw_g
set_option maxRecDepth 100000 in
theorem m_code_A_crash : Cond.code y_A_crash b_A_crash 1 (some .boolean) ∈ lw_g := k_g (List.mem_of_getElem? (i := 402) rfl) rfl
theorem m_inst_A_crash : Cond.instanceMethod y_A_crash ∈ lw_g := k_g (List.mem_of_getElem? (i := 400) (by decide +kernel)) rfl
theorem m_sel_A_crash : Cond.selects R_A y_A_crash y_A_crash ∈ lw_g := k_g (List.mem_of_getElem? (i := 401) (by decide +kernel)) rfl
theorem h_A_crash : y_A_crash.cls ≠ "java/lang/invoke/MethodHandle" ∧ y_A_crash.cls ≠ "java/lang/invoke/VarHandle" ∧ (parseMethodDescriptor y_A_crash.desc).map (fun d => d.parameters.length) = some 0 := by decide +kernel
abbrev b_A_restart : ByteArray := prog_1_method_12_code
def y_A_restart : MethodName := ⟨R_A, "restart", "()I"⟩
abbrev w_A_restart : List Cond := Cond.code y_A_restart b_A_restart 1 (some .int) :: lw_g
set_option maxRecDepth 100000 in
theorem m_code_A_restart : Cond.code y_A_restart b_A_restart 1 (some .int) ∈ lw_g := k_g (List.mem_of_getElem? (i := 406) rfl) rfl
theorem m_inst_A_restart : Cond.instanceMethod y_A_restart ∈ lw_g := k_g (List.mem_of_getElem? (i := 404) (by decide +kernel)) rfl
theorem m_sel_A_restart : Cond.selects R_A y_A_restart y_A_restart ∈ lw_g := k_g (List.mem_of_getElem? (i := 405) (by decide +kernel)) rfl
theorem h_A_restart : y_A_restart.cls ≠ "java/lang/invoke/MethodHandle" ∧ y_A_restart.cls ≠ "java/lang/invoke/VarHandle" ∧ (parseMethodDescriptor y_A_restart.desc).map (fun d => d.parameters.length) = some 0 := by decide +kernel
abbrev b_A_faults : ByteArray := prog_1_method_13_code
def y_A_faults : MethodName := ⟨R_A, "faults", "()I"⟩
abbrev w_A_faults : List Cond := Cond.code y_A_faults b_A_faults 3 (some .int) :: lw_g
set_option maxRecDepth 100000 in
theorem m_code_A_faults : Cond.code y_A_faults b_A_faults 3 (some .int) ∈ lw_g := k_g (List.mem_of_getElem? (i := 414) rfl) rfl
theorem m_inst_A_faults : Cond.instanceMethod y_A_faults ∈ lw_g := k_g (List.mem_of_getElem? (i := 412) (by decide +kernel)) rfl
theorem m_sel_A_faults : Cond.selects R_A y_A_faults y_A_faults ∈ lw_g := k_g (List.mem_of_getElem? (i := 413) (by decide +kernel)) rfl
theorem h_A_faults : y_A_faults.cls ≠ "java/lang/invoke/MethodHandle" ∧ y_A_faults.cls ≠ "java/lang/invoke/VarHandle" ∧ (parseMethodDescriptor y_A_faults.desc).map (fun d => d.parameters.length) = some 0 := by decide +kernel
abbrev b_A_peek : ByteArray := prog_1_method_14_code
def y_A_peek : MethodName := ⟨R_A, "peek", "(II)J"⟩
abbrev w_A_peek : List Cond := Cond.code y_A_peek b_A_peek 3 (some .long) :: lw_g
set_option maxRecDepth 100000 in
theorem m_code_A_peek : Cond.code y_A_peek b_A_peek 3 (some .long) ∈ lw_g := k_g (List.mem_of_getElem? (i := 418) rfl) rfl
theorem m_inst_A_peek : Cond.instanceMethod y_A_peek ∈ lw_g := k_g (List.mem_of_getElem? (i := 416) (by decide +kernel)) rfl
theorem m_sel_A_peek : Cond.selects R_A y_A_peek y_A_peek ∈ lw_g := k_g (List.mem_of_getElem? (i := 417) (by decide +kernel)) rfl
theorem h_A_peek : y_A_peek.cls ≠ "java/lang/invoke/MethodHandle" ∧ y_A_peek.cls ≠ "java/lang/invoke/VarHandle" ∧ (parseMethodDescriptor y_A_peek.desc).map (fun d => d.parameters.length) = some 2 := by decide +kernel
abbrev b_A_locate : ByteArray := prog_1_method_15_code
def y_A_locate : MethodName := ⟨R_A, "locate", "(I)I"⟩
abbrev w_A_locate : List Cond := Cond.code y_A_locate b_A_locate 2 (some .int) :: lw_g
set_option maxRecDepth 100000 in
theorem m_code_A_locate : Cond.code y_A_locate b_A_locate 2 (some .int) ∈ lw_g := k_g (List.mem_of_getElem? (i := 422) rfl) rfl
theorem m_inst_A_locate : Cond.instanceMethod y_A_locate ∈ lw_g := k_g (List.mem_of_getElem? (i := 420) (by decide +kernel)) rfl
theorem m_sel_A_locate : Cond.selects R_A y_A_locate y_A_locate ∈ lw_g := k_g (List.mem_of_getElem? (i := 421) (by decide +kernel)) rfl
theorem h_A_locate : y_A_locate.cls ≠ "java/lang/invoke/MethodHandle" ∧ y_A_locate.cls ≠ "java/lang/invoke/VarHandle" ∧ (parseMethodDescriptor y_A_locate.desc).map (fun d => d.parameters.length) = some 1 := by decide +kernel
abbrev b_A_position : ByteArray := prog_1_method_16_code
def y_A_position : MethodName := ⟨R_A, "position", "(I)I"⟩
abbrev w_A_position : List Cond := Cond.code y_A_position b_A_position 2 (some .int) :: lw_g
set_option maxRecDepth 100000 in
theorem m_code_A_position : Cond.code y_A_position b_A_position 2 (some .int) ∈ lw_g := k_g (List.mem_of_getElem? (i := 426) rfl) rfl
theorem m_inst_A_position : Cond.instanceMethod y_A_position ∈ lw_g := k_g (List.mem_of_getElem? (i := 424) (by decide +kernel)) rfl
theorem m_sel_A_position : Cond.selects R_A y_A_position y_A_position ∈ lw_g := k_g (List.mem_of_getElem? (i := 425) (by decide +kernel)) rfl
theorem h_A_position : y_A_position.cls ≠ "java/lang/invoke/MethodHandle" ∧ y_A_position.cls ≠ "java/lang/invoke/VarHandle" ∧ (parseMethodDescriptor y_A_position.desc).map (fun d => d.parameters.length) = some 1 := by decide +kernel
abbrev b_A_mode : ByteArray := prog_1_method_17_code
def y_A_mode : MethodName := ⟨R_A, "mode", "()I"⟩
abbrev w_A_mode : List Cond := Cond.code y_A_mode b_A_mode 2 (some .int) :: lw_g
set_option maxRecDepth 100000 in
theorem m_code_A_mode : Cond.code y_A_mode b_A_mode 2 (some .int) ∈ lw_g := k_g (List.mem_of_getElem? (i := 430) rfl) rfl
theorem m_inst_A_mode : Cond.instanceMethod y_A_mode ∈ lw_g := k_g (List.mem_of_getElem? (i := 428) (by decide +kernel)) rfl
theorem m_sel_A_mode : Cond.selects R_A y_A_mode y_A_mode ∈ lw_g := k_g (List.mem_of_getElem? (i := 429) (by decide +kernel)) rfl
theorem h_A_mode : y_A_mode.cls ≠ "java/lang/invoke/MethodHandle" ∧ y_A_mode.cls ≠ "java/lang/invoke/VarHandle" ∧ (parseMethodDescriptor y_A_mode.desc).map (fun d => d.parameters.length) = some 0 := by decide +kernel
abbrev b_A_logged : ByteArray := prog_1_method_18_code
def y_A_logged : MethodName := ⟨R_A, "logged", "()I"⟩
abbrev w_A_logged : List Cond := Cond.code y_A_logged b_A_logged 1 (some .int) :: lw_g
set_option maxRecDepth 100000 in
theorem m_code_A_logged : Cond.code y_A_logged b_A_logged 1 (some .int) ∈ lw_g := k_g (List.mem_of_getElem? (i := 434) rfl) rfl
theorem m_inst_A_logged : Cond.instanceMethod y_A_logged ∈ lw_g := k_g (List.mem_of_getElem? (i := 432) (by decide +kernel)) rfl
theorem m_sel_A_logged : Cond.selects R_A y_A_logged y_A_logged ∈ lw_g := k_g (List.mem_of_getElem? (i := 433) (by decide +kernel)) rfl
theorem h_A_logged : y_A_logged.cls ≠ "java/lang/invoke/MethodHandle" ∧ y_A_logged.cls ≠ "java/lang/invoke/VarHandle" ∧ (parseMethodDescriptor y_A_logged.desc).map (fun d => d.parameters.length) = some 0 := by decide +kernel
abbrev b_A_spares : ByteArray := prog_1_method_19_code
def y_A_spares : MethodName := ⟨R_A, "spares", "()I"⟩
abbrev w_A_spares : List Cond := Cond.code y_A_spares b_A_spares 1 (some .int) :: lw_g
set_option maxRecDepth 100000 in
theorem m_code_A_spares : Cond.code y_A_spares b_A_spares 1 (some .int) ∈ lw_g := k_g (List.mem_of_getElem? (i := 438) rfl) rfl
theorem m_inst_A_spares : Cond.instanceMethod y_A_spares ∈ lw_g := k_g (List.mem_of_getElem? (i := 436) (by decide +kernel)) rfl
theorem m_sel_A_spares : Cond.selects R_A y_A_spares y_A_spares ∈ lw_g := k_g (List.mem_of_getElem? (i := 437) (by decide +kernel)) rfl
theorem h_A_spares : y_A_spares.cls ≠ "java/lang/invoke/MethodHandle" ∧ y_A_spares.cls ≠ "java/lang/invoke/VarHandle" ∧ (parseMethodDescriptor y_A_spares.desc).map (fun d => d.parameters.length) = some 0 := by decide +kernel
abbrev b_A_reads : ByteArray := prog_1_method_20_code
def y_A_reads : MethodName := ⟨R_A, "reads", "()I"⟩
abbrev w_A_reads : List Cond := Cond.code y_A_reads b_A_reads 1 (some .int) :: lw_g
set_option maxRecDepth 100000 in
theorem m_code_A_reads : Cond.code y_A_reads b_A_reads 1 (some .int) ∈ lw_g := k_g (List.mem_of_getElem? (i := 442) rfl) rfl
theorem m_inst_A_reads : Cond.instanceMethod y_A_reads ∈ lw_g := k_g (List.mem_of_getElem? (i := 440) (by decide +kernel)) rfl
theorem m_sel_A_reads : Cond.selects R_A y_A_reads y_A_reads ∈ lw_g := k_g (List.mem_of_getElem? (i := 441) (by decide +kernel)) rfl
theorem h_A_reads : y_A_reads.cls ≠ "java/lang/invoke/MethodHandle" ∧ y_A_reads.cls ≠ "java/lang/invoke/VarHandle" ∧ (parseMethodDescriptor y_A_reads.desc).map (fun d => d.parameters.length) = some 0 := by decide +kernel
abbrev b_A_writes : ByteArray := prog_1_method_21_code
def y_A_writes : MethodName := ⟨R_A, "writes", "()I"⟩
abbrev w_A_writes : List Cond := Cond.code y_A_writes b_A_writes 1 (some .int) :: lw_g
set_option maxRecDepth 100000 in
theorem m_code_A_writes : Cond.code y_A_writes b_A_writes 1 (some .int) ∈ lw_g := k_g (List.mem_of_getElem? (i := 446) rfl) rfl
theorem m_inst_A_writes : Cond.instanceMethod y_A_writes ∈ lw_g := k_g (List.mem_of_getElem? (i := 444) (by decide +kernel)) rfl
theorem m_sel_A_writes : Cond.selects R_A y_A_writes y_A_writes ∈ lw_g := k_g (List.mem_of_getElem? (i := 445) (by decide +kernel)) rfl
theorem h_A_writes : y_A_writes.cls ≠ "java/lang/invoke/MethodHandle" ∧ y_A_writes.cls ≠ "java/lang/invoke/VarHandle" ∧ (parseMethodDescriptor y_A_writes.desc).map (fun d => d.parameters.length) = some 0 := by decide +kernel
abbrev b_A_within : ByteArray := prog_1_method_22_code
def y_A_within : MethodName := ⟨R_A, "within", "(III)I"⟩
abbrev w_A_within : List Cond := Cond.code y_A_within b_A_within 3 (some .int) :: lw_g
set_option maxRecDepth 100000 in
theorem m_code_A_within : Cond.code y_A_within b_A_within 3 (some .int) ∈ lw_g := k_g (List.mem_of_getElem? (i := 49) rfl) rfl
theorem m_stat_A_within : Cond.static y_A_within ∈ lw_g := k_g (List.mem_of_getElem? (i := 48) (by decide +kernel)) rfl
theorem h_A_within : y_A_within.cls ≠ "java/lang/invoke/MethodHandle" ∧ y_A_within.cls ≠ "java/lang/invoke/VarHandle" ∧ (parseMethodDescriptor y_A_within.desc).map (fun d => d.parameters.length) = some 3 := by decide +kernel
abbrev b_A_unsigned : ByteArray := prog_1_method_23_code
def y_A_unsigned : MethodName := ⟨R_A, "unsigned", "(I)J"⟩
abbrev w_A_unsigned : List Cond := Cond.code y_A_unsigned b_A_unsigned 1 (some .long) :: lw_g
set_option maxRecDepth 100000 in
theorem m_code_A_unsigned : Cond.code y_A_unsigned b_A_unsigned 1 (some .long) ∈ lw_g := k_g (List.mem_of_getElem? (i := 187) rfl) rfl
theorem m_stat_A_unsigned : Cond.static y_A_unsigned ∈ lw_g := k_g (List.mem_of_getElem? (i := 186) (by decide +kernel)) rfl
theorem h_A_unsigned : y_A_unsigned.cls ≠ "java/lang/invoke/MethodHandle" ∧ y_A_unsigned.cls ≠ "java/lang/invoke/VarHandle" ∧ (parseMethodDescriptor y_A_unsigned.desc).map (fun d => d.parameters.length) = some 1 := by decide +kernel
abbrev b_A_blockCount : ByteArray := prog_1_method_24_code
def y_A_blockCount : MethodName := ⟨R_A, "blockCount", "()I"⟩
abbrev w_A_blockCount : List Cond := Cond.code y_A_blockCount b_A_blockCount 1 (some .int) :: lw_g
set_option maxRecDepth 100000 in
theorem m_code_A_blockCount : Cond.code y_A_blockCount b_A_blockCount 1 (some .int) ∈ lw_g := k_g (List.mem_of_getElem? (i := 159) rfl) rfl
theorem m_inst_A_blockCount : Cond.instanceMethod y_A_blockCount ∈ lw_g := k_g (List.mem_of_getElem? (i := 158) (by decide +kernel)) rfl
theorem m_sel_A_blockCount : Cond.selects R_A y_A_blockCount y_A_blockCount ∈ lw_g := k_g (List.mem_of_getElem? (i := 1) (by decide +kernel)) rfl
theorem h_A_blockCount : y_A_blockCount.cls ≠ "java/lang/invoke/MethodHandle" ∧ y_A_blockCount.cls ≠ "java/lang/invoke/VarHandle" ∧ (parseMethodDescriptor y_A_blockCount.desc).map (fun d => d.parameters.length) = some 0 := by decide +kernel
abbrev b_A_hasBlock : ByteArray := prog_1_method_25_code
def y_A_hasBlock : MethodName := ⟨R_A, "hasBlock", "(I)Z"⟩
abbrev w_A_hasBlock : List Cond := Cond.code y_A_hasBlock b_A_hasBlock 2 (some .boolean) :: lw_g
set_option maxRecDepth 100000 in
theorem m_code_A_hasBlock : Cond.code y_A_hasBlock b_A_hasBlock 2 (some .boolean) ∈ lw_g := k_g (List.mem_of_getElem? (i := 155) rfl) rfl
theorem m_inst_A_hasBlock : Cond.instanceMethod y_A_hasBlock ∈ lw_g := k_g (List.mem_of_getElem? (i := 154) (by decide +kernel)) rfl
theorem m_sel_A_hasBlock : Cond.selects R_A y_A_hasBlock y_A_hasBlock ∈ lw_g := k_g (List.mem_of_getElem? (i := 0) (by decide +kernel)) rfl
theorem h_A_hasBlock : y_A_hasBlock.cls ≠ "java/lang/invoke/MethodHandle" ∧ y_A_hasBlock.cls ≠ "java/lang/invoke/VarHandle" ∧ (parseMethodDescriptor y_A_hasBlock.desc).map (fun d => d.parameters.length) = some 1 := by decide +kernel
abbrev b_A_refusal : ByteArray := prog_1_method_26_code
def y_A_refusal : MethodName := ⟨R_A, "refusal", "()I"⟩
abbrev w_A_refusal : List Cond := Cond.code y_A_refusal b_A_refusal 1 (some .int) :: lw_g
set_option maxRecDepth 100000 in
theorem m_code_A_refusal : Cond.code y_A_refusal b_A_refusal 1 (some .int) ∈ lw_g := k_g (List.mem_of_getElem? (i := 164) rfl) rfl
theorem m_inst_A_refusal : Cond.instanceMethod y_A_refusal ∈ lw_g := k_g (List.mem_of_getElem? (i := 163) (by decide +kernel)) rfl
theorem m_sel_A_refusal : Cond.selects R_A y_A_refusal y_A_refusal ∈ lw_g := k_g (List.mem_of_getElem? (i := 2) (by decide +kernel)) rfl
theorem h_A_refusal : y_A_refusal.cls ≠ "java/lang/invoke/MethodHandle" ∧ y_A_refusal.cls ≠ "java/lang/invoke/VarHandle" ∧ (parseMethodDescriptor y_A_refusal.desc).map (fun d => d.parameters.length) = some 0 := by decide +kernel
abbrev b_A_readAvailableCells : ByteArray := prog_1_method_27_code
def y_A_readAvailableCells : MethodName := ⟨R_A, "readAvailableCells", "(I)V"⟩
abbrev w_A_readAvailableCells : List Cond := Cond.code y_A_readAvailableCells b_A_readAvailableCells 2 none :: lw_g
set_option maxRecDepth 100000 in
theorem m_code_A_readAvailableCells : Cond.code y_A_readAvailableCells b_A_readAvailableCells 2 none ∈ lw_g := k_g (List.mem_of_getElem? (i := 192) rfl) rfl
theorem m_inst_A_readAvailableCells : Cond.instanceMethod y_A_readAvailableCells ∈ lw_g := k_g (List.mem_of_getElem? (i := 191) (by decide +kernel)) rfl
theorem m_sel_A_readAvailableCells : Cond.selects R_A y_A_readAvailableCells y_A_readAvailableCells ∈ lw_g := k_g (List.mem_of_getElem? (i := 4) (by decide +kernel)) rfl
theorem h_A_readAvailableCells : y_A_readAvailableCells.cls ≠ "java/lang/invoke/MethodHandle" ∧ y_A_readAvailableCells.cls ≠ "java/lang/invoke/VarHandle" ∧ (parseMethodDescriptor y_A_readAvailableCells.desc).map (fun d => d.parameters.length) = some 1 := by decide +kernel
abbrev b_A_beginAct : ByteArray := prog_1_method_28_code
def y_A_beginAct : MethodName := ⟨R_A, "beginAct", "()Z"⟩
abbrev w_A_beginAct : List Cond := Cond.code y_A_beginAct b_A_beginAct 1 (some .boolean) :: lw_g
set_option maxRecDepth 100000 in
theorem m_code_A_beginAct : Cond.code y_A_beginAct b_A_beginAct 1 (some .boolean) ∈ lw_g := k_g (List.mem_of_getElem? (i := 281) rfl) rfl
theorem m_inst_A_beginAct : Cond.instanceMethod y_A_beginAct ∈ lw_g := k_g (List.mem_of_getElem? (i := 280) (by decide +kernel)) rfl
theorem m_sel_A_beginAct : Cond.selects R_A y_A_beginAct y_A_beginAct ∈ lw_g := k_g (List.mem_of_getElem? (i := 12) (by decide +kernel)) rfl
theorem h_A_beginAct : y_A_beginAct.cls ≠ "java/lang/invoke/MethodHandle" ∧ y_A_beginAct.cls ≠ "java/lang/invoke/VarHandle" ∧ (parseMethodDescriptor y_A_beginAct.desc).map (fun d => d.parameters.length) = some 0 := by decide +kernel
abbrev b_A_stop : ByteArray := prog_1_method_29_code
def y_A_stop : MethodName := ⟨R_A, "stop", "()V"⟩
abbrev w_A_stop : List Cond := Cond.code y_A_stop b_A_stop 1 none :: lw_g
set_option maxRecDepth 100000 in
theorem m_code_A_stop : Cond.code y_A_stop b_A_stop 1 none ∈ lw_g := k_g (List.mem_of_getElem? (i := 285) rfl) rfl
theorem m_inst_A_stop : Cond.instanceMethod y_A_stop ∈ lw_g := k_g (List.mem_of_getElem? (i := 284) (by decide +kernel)) rfl
theorem m_sel_A_stop : Cond.selects R_A y_A_stop y_A_stop ∈ lw_g := k_g (List.mem_of_getElem? (i := 13) (by decide +kernel)) rfl
theorem h_A_stop : y_A_stop.cls ≠ "java/lang/invoke/MethodHandle" ∧ y_A_stop.cls ≠ "java/lang/invoke/VarHandle" ∧ (parseMethodDescriptor y_A_stop.desc).map (fun d => d.parameters.length) = some 0 := by decide +kernel
abbrev b_A_writeCell : ByteArray := prog_1_method_30_code
def y_A_writeCell : MethodName := ⟨R_A, "writeCell", "(III)Z"⟩
abbrev w_A_writeCell : List Cond := Cond.code y_A_writeCell b_A_writeCell 4 (some .boolean) :: lw_g
set_option maxRecDepth 100000 in
theorem m_code_A_writeCell : Cond.code y_A_writeCell b_A_writeCell 4 (some .boolean) ∈ lw_g := k_g (List.mem_of_getElem? (i := 310) rfl) rfl
theorem m_inst_A_writeCell : Cond.instanceMethod y_A_writeCell ∈ lw_g := k_g (List.mem_of_getElem? (i := 309) (by decide +kernel)) rfl
theorem m_sel_A_writeCell : Cond.selects R_A y_A_writeCell y_A_writeCell ∈ lw_g := k_g (List.mem_of_getElem? (i := 15) (by decide +kernel)) rfl
theorem h_A_writeCell : y_A_writeCell.cls ≠ "java/lang/invoke/MethodHandle" ∧ y_A_writeCell.cls ≠ "java/lang/invoke/VarHandle" ∧ (parseMethodDescriptor y_A_writeCell.desc).map (fun d => d.parameters.length) = some 3 := by decide +kernel
abbrev b_A_writeColumns : ByteArray := prog_1_method_31_code
def y_A_writeColumns : MethodName := ⟨R_A, "writeColumns", "(IIII)Z"⟩
abbrev w_A_writeColumns : List Cond := Cond.code y_A_writeColumns b_A_writeColumns 6 (some .boolean) :: lw_g
set_option maxRecDepth 100000 in
theorem m_code_A_writeColumns : Cond.code y_A_writeColumns b_A_writeColumns 6 (some .boolean) ∈ lw_g := k_g (List.mem_of_getElem? (i := 257) rfl) rfl
theorem m_inst_A_writeColumns : Cond.instanceMethod y_A_writeColumns ∈ lw_g := k_g (List.mem_of_getElem? (i := 256) (by decide +kernel)) rfl
theorem m_sel_A_writeColumns : Cond.selects R_A y_A_writeColumns y_A_writeColumns ∈ lw_g := k_g (List.mem_of_getElem? (i := 10) (by decide +kernel)) rfl
theorem h_A_writeColumns : y_A_writeColumns.cls ≠ "java/lang/invoke/MethodHandle" ∧ y_A_writeColumns.cls ≠ "java/lang/invoke/VarHandle" ∧ (parseMethodDescriptor y_A_writeColumns.desc).map (fun d => d.parameters.length) = some 4 := by decide +kernel
abbrev b_A_logColumns : ByteArray := prog_1_method_32_code
def y_A_logColumns : MethodName := ⟨R_A, "logColumns", "(III)Z"⟩
abbrev w_A_logColumns : List Cond := Cond.code y_A_logColumns b_A_logColumns 5 (some .boolean) :: lw_g
set_option maxRecDepth 100000 in
theorem m_code_A_logColumns : Cond.code y_A_logColumns b_A_logColumns 5 (some .boolean) ∈ lw_g := k_g (List.mem_of_getElem? (i := 277) rfl) rfl
theorem m_inst_A_logColumns : Cond.instanceMethod y_A_logColumns ∈ lw_g := k_g (List.mem_of_getElem? (i := 276) (by decide +kernel)) rfl
theorem m_sel_A_logColumns : Cond.selects R_A y_A_logColumns y_A_logColumns ∈ lw_g := k_g (List.mem_of_getElem? (i := 11) (by decide +kernel)) rfl
theorem h_A_logColumns : y_A_logColumns.cls ≠ "java/lang/invoke/MethodHandle" ∧ y_A_logColumns.cls ≠ "java/lang/invoke/VarHandle" ∧ (parseMethodDescriptor y_A_logColumns.desc).map (fun d => d.parameters.length) = some 3 := by decide +kernel
abbrev b_A_carryOutEntry : ByteArray := prog_1_method_33_code
def y_A_carryOutEntry : MethodName := ⟨R_A, "carryOutEntry", "()Z"⟩
abbrev w_A_carryOutEntry : List Cond := Cond.code y_A_carryOutEntry b_A_carryOutEntry 4 (some .boolean) :: lw_g
set_option maxRecDepth 100000 in
theorem m_code_A_carryOutEntry : Cond.code y_A_carryOutEntry b_A_carryOutEntry 4 (some .boolean) ∈ lw_g := k_g (List.mem_of_getElem? (i := 294) rfl) rfl
theorem m_inst_A_carryOutEntry : Cond.instanceMethod y_A_carryOutEntry ∈ lw_g := k_g (List.mem_of_getElem? (i := 293) (by decide +kernel)) rfl
theorem m_sel_A_carryOutEntry : Cond.selects R_A y_A_carryOutEntry y_A_carryOutEntry ∈ lw_g := k_g (List.mem_of_getElem? (i := 14) (by decide +kernel)) rfl
theorem h_A_carryOutEntry : y_A_carryOutEntry.cls ≠ "java/lang/invoke/MethodHandle" ∧ y_A_carryOutEntry.cls ≠ "java/lang/invoke/VarHandle" ∧ (parseMethodDescriptor y_A_carryOutEntry.desc).map (fun d => d.parameters.length) = some 0 := by decide +kernel
abbrev b_M_init : ByteArray := prog_7_method_1_code
def y_M_init : MethodName := ⟨R_M, "<init>", "(III)V"⟩
abbrev w_M_init : List Cond := Cond.code y_M_init b_M_init 5 none :: lw_g
set_option maxRecDepth 100000 in
theorem m_code_M_init : Cond.code y_M_init b_M_init 5 none ∈ lw_g := k_g (List.mem_of_getElem? (i := 454) rfl) rfl
theorem m_inst_M_init : Cond.instanceMethod y_M_init ∈ lw_g := k_g (List.mem_of_getElem? (i := 453) (by decide +kernel)) rfl
theorem h_M_init : y_M_init.cls ≠ "java/lang/invoke/MethodHandle" ∧ y_M_init.cls ≠ "java/lang/invoke/VarHandle" ∧ (parseMethodDescriptor y_M_init.desc).map (fun d => d.parameters.length) = some 3 := by decide +kernel
abbrev b_M_byteTimes : ByteArray := prog_7_method_2_code
def y_M_byteTimes : MethodName := ⟨R_M, "byteTimes", "(II)I"⟩
abbrev w_M_byteTimes : List Cond := Cond.code y_M_byteTimes b_M_byteTimes 4 (some .int) :: lw_g
set_option maxRecDepth 100000 in
theorem m_code_M_byteTimes : Cond.code y_M_byteTimes b_M_byteTimes 4 (some .int) ∈ lw_g := k_g (List.mem_of_getElem? (i := 553) rfl) rfl
theorem m_stat_M_byteTimes : Cond.static y_M_byteTimes ∈ lw_g := k_g (List.mem_of_getElem? (i := 552) (by decide +kernel)) rfl
theorem h_M_byteTimes : y_M_byteTimes.cls ≠ "java/lang/invoke/MethodHandle" ∧ y_M_byteTimes.cls ≠ "java/lang/invoke/VarHandle" ∧ (parseMethodDescriptor y_M_byteTimes.desc).map (fun d => d.parameters.length) = some 2 := by decide +kernel
abbrev b_M_times : ByteArray := prog_7_method_3_code
def y_M_times : MethodName := ⟨R_M, "times", "(II)I"⟩
abbrev w_M_times : List Cond := Cond.code y_M_times b_M_times 5 (some .int) :: lw_g
set_option maxRecDepth 100000 in
theorem m_code_M_times : Cond.code y_M_times b_M_times 5 (some .int) ∈ lw_g := k_g (List.mem_of_getElem? (i := 550) rfl) rfl
theorem m_stat_M_times : Cond.static y_M_times ∈ lw_g := k_g (List.mem_of_getElem? (i := 549) (by decide +kernel)) rfl
theorem h_M_times : y_M_times.cls ≠ "java/lang/invoke/MethodHandle" ∧ y_M_times.cls ≠ "java/lang/invoke/VarHandle" ∧ (parseMethodDescriptor y_M_times.desc).map (fun d => d.parameters.length) = some 2 := by decide +kernel
abbrev b_M_diskOf : ByteArray := prog_7_method_4_code
def y_M_diskOf : MethodName := ⟨R_M, "diskOf", "(II)I"⟩
abbrev w_M_diskOf : List Cond := Cond.code y_M_diskOf b_M_diskOf 4 (some .int) :: lw_g
set_option maxRecDepth 100000 in
theorem m_code_M_diskOf : Cond.code y_M_diskOf b_M_diskOf 4 (some .int) ∈ lw_g := k_g (List.mem_of_getElem? (i := 527) rfl) rfl
theorem m_inst_M_diskOf : Cond.instanceMethod y_M_diskOf ∈ lw_g := k_g (List.mem_of_getElem? (i := 526) (by decide +kernel)) rfl
theorem m_sel_M_diskOf : Cond.selects R_M y_M_diskOf y_M_diskOf ∈ lw_g := k_g (List.mem_of_getElem? (i := 19) (by decide +kernel)) rfl
theorem h_M_diskOf : y_M_diskOf.cls ≠ "java/lang/invoke/MethodHandle" ∧ y_M_diskOf.cls ≠ "java/lang/invoke/VarHandle" ∧ (parseMethodDescriptor y_M_diskOf.desc).map (fun d => d.parameters.length) = some 2 := by decide +kernel
abbrev b_M_has : ByteArray := prog_7_method_5_code
def y_M_has : MethodName := ⟨R_M, "has", "(II)Z"⟩
abbrev w_M_has : List Cond := Cond.code y_M_has b_M_has 3 (some .boolean) :: lw_g
set_option maxRecDepth 100000 in
theorem m_code_M_has : Cond.code y_M_has b_M_has 3 (some .boolean) ∈ lw_g := k_g (List.mem_of_getElem? (i := 523) rfl) rfl
theorem m_inst_M_has : Cond.instanceMethod y_M_has ∈ lw_g := k_g (List.mem_of_getElem? (i := 522) (by decide +kernel)) rfl
theorem m_sel_M_has : Cond.selects R_M y_M_has y_M_has ∈ lw_g := k_g (List.mem_of_getElem? (i := 18) (by decide +kernel)) rfl
theorem h_M_has : y_M_has.cls ≠ "java/lang/invoke/MethodHandle" ∧ y_M_has.cls ≠ "java/lang/invoke/VarHandle" ∧ (parseMethodDescriptor y_M_has.desc).map (fun d => d.parameters.length) = some 2 := by decide +kernel
abbrev b_M_cellOf : ByteArray := prog_7_method_6_code
def y_M_cellOf : MethodName := ⟨R_M, "cellOf", "(II)I"⟩
abbrev w_M_cellOf : List Cond := Cond.code y_M_cellOf b_M_cellOf 3 (some .int) :: lw_g
set_option maxRecDepth 100000 in
theorem m_code_M_cellOf : Cond.code y_M_cellOf b_M_cellOf 3 (some .int) ∈ lw_g := k_g (List.mem_of_getElem? (i := 539) rfl) rfl
theorem m_inst_M_cellOf : Cond.instanceMethod y_M_cellOf ∈ lw_g := k_g (List.mem_of_getElem? (i := 538) (by decide +kernel)) rfl
theorem m_sel_M_cellOf : Cond.selects R_M y_M_cellOf y_M_cellOf ∈ lw_g := k_g (List.mem_of_getElem? (i := 22) (by decide +kernel)) rfl
theorem h_M_cellOf : y_M_cellOf.cls ≠ "java/lang/invoke/MethodHandle" ∧ y_M_cellOf.cls ≠ "java/lang/invoke/VarHandle" ∧ (parseMethodDescriptor y_M_cellOf.desc).map (fun d => d.parameters.length) = some 2 := by decide +kernel
abbrev b_M_isBlock : ByteArray := prog_7_method_7_code
def y_M_isBlock : MethodName := ⟨R_M, "isBlock", "(I)Z"⟩
abbrev w_M_isBlock : List Cond := Cond.code y_M_isBlock b_M_isBlock 2 (some .boolean) :: lw_g
set_option maxRecDepth 100000 in
theorem m_code_M_isBlock : Cond.code y_M_isBlock b_M_isBlock 2 (some .boolean) ∈ lw_g := k_g (List.mem_of_getElem? (i := 512) rfl) rfl
theorem m_inst_M_isBlock : Cond.instanceMethod y_M_isBlock ∈ lw_g := k_g (List.mem_of_getElem? (i := 511) (by decide +kernel)) rfl
theorem m_sel_M_isBlock : Cond.selects R_M y_M_isBlock y_M_isBlock ∈ lw_g := k_g (List.mem_of_getElem? (i := 16) (by decide +kernel)) rfl
theorem h_M_isBlock : y_M_isBlock.cls ≠ "java/lang/invoke/MethodHandle" ∧ y_M_isBlock.cls ≠ "java/lang/invoke/VarHandle" ∧ (parseMethodDescriptor y_M_isBlock.desc).map (fun d => d.parameters.length) = some 1 := by decide +kernel
abbrev b_M_broken : ByteArray := prog_7_method_8_code
def y_M_broken : MethodName := ⟨R_M, "broken", "()Z"⟩
abbrev w_M_broken : List Cond := Cond.code y_M_broken b_M_broken 3 (some .boolean) :: lw_g
set_option maxRecDepth 100000 in
theorem m_code_M_broken : Cond.code y_M_broken b_M_broken 3 (some .boolean) ∈ lw_g := k_g (List.mem_of_getElem? (i := 517) rfl) rfl
theorem m_inst_M_broken : Cond.instanceMethod y_M_broken ∈ lw_g := k_g (List.mem_of_getElem? (i := 516) (by decide +kernel)) rfl
theorem m_sel_M_broken : Cond.selects R_M y_M_broken y_M_broken ∈ lw_g := k_g (List.mem_of_getElem? (i := 17) (by decide +kernel)) rfl
theorem h_M_broken : y_M_broken.cls ≠ "java/lang/invoke/MethodHandle" ∧ y_M_broken.cls ≠ "java/lang/invoke/VarHandle" ∧ (parseMethodDescriptor y_M_broken.desc).map (fun d => d.parameters.length) = some 0 := by decide +kernel
abbrev b_M_availableIn : ByteArray := prog_7_method_9_code
def y_M_availableIn : MethodName := ⟨R_M, "availableIn", "(I)I"⟩
abbrev w_M_availableIn : List Cond := Cond.code y_M_availableIn b_M_availableIn 4 (some .int) :: lw_g
set_option maxRecDepth 100000 in
theorem m_code_M_availableIn : Cond.code y_M_availableIn b_M_availableIn 4 (some .int) ∈ lw_g := k_g (List.mem_of_getElem? (i := 531) rfl) rfl
theorem m_inst_M_availableIn : Cond.instanceMethod y_M_availableIn ∈ lw_g := k_g (List.mem_of_getElem? (i := 530) (by decide +kernel)) rfl
theorem m_sel_M_availableIn : Cond.selects R_M y_M_availableIn y_M_availableIn ∈ lw_g := k_g (List.mem_of_getElem? (i := 20) (by decide +kernel)) rfl
theorem h_M_availableIn : y_M_availableIn.cls ≠ "java/lang/invoke/MethodHandle" ∧ y_M_availableIn.cls ≠ "java/lang/invoke/VarHandle" ∧ (parseMethodDescriptor y_M_availableIn.desc).map (fun d => d.parameters.length) = some 1 := by decide +kernel
abbrev b_M_sum : ByteArray := prog_7_method_10_code
def y_M_sum : MethodName := ⟨R_M, "sum", "()I"⟩
abbrev w_M_sum : List Cond := Cond.code y_M_sum b_M_sum 3 (some .int) :: lw_g
set_option maxRecDepth 100000 in
theorem m_code_M_sum : Cond.code y_M_sum b_M_sum 3 (some .int) ∈ lw_g := k_g (List.mem_of_getElem? (i := 543) rfl) rfl
theorem m_inst_M_sum : Cond.instanceMethod y_M_sum ∈ lw_g := k_g (List.mem_of_getElem? (i := 542) (by decide +kernel)) rfl
theorem m_sel_M_sum : Cond.selects R_M y_M_sum y_M_sum ∈ lw_g := k_g (List.mem_of_getElem? (i := 23) (by decide +kernel)) rfl
theorem h_M_sum : y_M_sum.cls ≠ "java/lang/invoke/MethodHandle" ∧ y_M_sum.cls ≠ "java/lang/invoke/VarHandle" ∧ (parseMethodDescriptor y_M_sum.desc).map (fun d => d.parameters.length) = some 0 := by decide +kernel
abbrev b_M_weighted : ByteArray := prog_7_method_11_code
def y_M_weighted : MethodName := ⟨R_M, "weighted", "()I"⟩
abbrev w_M_weighted : List Cond := Cond.code y_M_weighted b_M_weighted 3 (some .int) :: lw_g
set_option maxRecDepth 100000 in
theorem m_code_M_weighted : Cond.code y_M_weighted b_M_weighted 3 (some .int) ∈ lw_g := k_g (List.mem_of_getElem? (i := 547) rfl) rfl
theorem m_inst_M_weighted : Cond.instanceMethod y_M_weighted ∈ lw_g := k_g (List.mem_of_getElem? (i := 546) (by decide +kernel)) rfl
theorem m_sel_M_weighted : Cond.selects R_M y_M_weighted y_M_weighted ∈ lw_g := k_g (List.mem_of_getElem? (i := 24) (by decide +kernel)) rfl
theorem h_M_weighted : y_M_weighted.cls ≠ "java/lang/invoke/MethodHandle" ∧ y_M_weighted.cls ≠ "java/lang/invoke/VarHandle" ∧ (parseMethodDescriptor y_M_weighted.desc).map (fun d => d.parameters.length) = some 0 := by decide +kernel
abbrev b_M_unTimes : ByteArray := prog_7_method_12_code
def y_M_unTimes : MethodName := ⟨R_M, "unTimes", "(II)I"⟩
abbrev w_M_unTimes : List Cond := Cond.code y_M_unTimes b_M_unTimes 5 (some .int) :: lw_g
set_option maxRecDepth 100000 in
theorem m_code_M_unTimes : Cond.code y_M_unTimes b_M_unTimes 5 (some .int) ∈ lw_g := k_g (List.mem_of_getElem? (i := 559) rfl) rfl
theorem m_stat_M_unTimes : Cond.static y_M_unTimes ∈ lw_g := k_g (List.mem_of_getElem? (i := 558) (by decide +kernel)) rfl
theorem h_M_unTimes : y_M_unTimes.cls ≠ "java/lang/invoke/MethodHandle" ∧ y_M_unTimes.cls ≠ "java/lang/invoke/VarHandle" ∧ (parseMethodDescriptor y_M_unTimes.desc).map (fun d => d.parameters.length) = some 2 := by decide +kernel
abbrev b_M_solve : ByteArray := prog_7_method_13_code
def y_M_solve : MethodName := ⟨R_M, "solve", "(IIII)I"⟩
abbrev w_M_solve : List Cond := Cond.code y_M_solve b_M_solve 10 (some .int) :: lw_g
set_option maxRecDepth 100000 in
theorem m_code_M_solve : Cond.code y_M_solve b_M_solve 10 (some .int) ∈ lw_g := k_g (List.mem_of_getElem? (i := 556) rfl) rfl
theorem m_stat_M_solve : Cond.static y_M_solve ∈ lw_g := k_g (List.mem_of_getElem? (i := 555) (by decide +kernel)) rfl
theorem h_M_solve : y_M_solve.cls ≠ "java/lang/invoke/MethodHandle" ∧ y_M_solve.cls ≠ "java/lang/invoke/VarHandle" ∧ (parseMethodDescriptor y_M_solve.desc).map (fun d => d.parameters.length) = some 4 := by decide +kernel
abbrev b_M_values : ByteArray := prog_7_method_14_code
def y_M_values : MethodName := ⟨R_M, "values", "(I)V"⟩
abbrev w_M_values : List Cond := Cond.code y_M_values b_M_values 8 none :: lw_g
set_option maxRecDepth 100000 in
theorem m_code_M_values : Cond.code y_M_values b_M_values 8 none ∈ lw_g := k_g (List.mem_of_getElem? (i := 535) rfl) rfl
theorem m_inst_M_values : Cond.instanceMethod y_M_values ∈ lw_g := k_g (List.mem_of_getElem? (i := 534) (by decide +kernel)) rfl
theorem m_sel_M_values : Cond.selects R_M y_M_values y_M_values ∈ lw_g := k_g (List.mem_of_getElem? (i := 21) (by decide +kernel)) rfl
theorem h_M_values : y_M_values.cls ≠ "java/lang/invoke/MethodHandle" ∧ y_M_values.cls ≠ "java/lang/invoke/VarHandle" ∧ (parseMethodDescriptor y_M_values.desc).map (fun d => d.parameters.length) = some 1 := by decide +kernel
abbrev b_M_valueOn : ByteArray := prog_7_method_15_code
def y_M_valueOn : MethodName := ⟨R_M, "valueOn", "(II)I"⟩
abbrev w_M_valueOn : List Cond := Cond.code y_M_valueOn b_M_valueOn 6 (some .int) :: lw_g
set_option maxRecDepth 100000 in
theorem m_code_M_valueOn : Cond.code y_M_valueOn b_M_valueOn 6 (some .int) ∈ lw_g := k_g (List.mem_of_getElem? (i := 601) rfl) rfl
theorem m_inst_M_valueOn : Cond.instanceMethod y_M_valueOn ∈ lw_g := k_g (List.mem_of_getElem? (i := 600) (by decide +kernel)) rfl
theorem m_sel_M_valueOn : Cond.selects R_M y_M_valueOn y_M_valueOn ∈ lw_g := k_g (List.mem_of_getElem? (i := 29) (by decide +kernel)) rfl
theorem h_M_valueOn : y_M_valueOn.cls ≠ "java/lang/invoke/MethodHandle" ∧ y_M_valueOn.cls ≠ "java/lang/invoke/VarHandle" ∧ (parseMethodDescriptor y_M_valueOn.desc).map (fun d => d.parameters.length) = some 2 := by decide +kernel
abbrev b_M_act : ByteArray := prog_7_method_16_code
def y_M_act : MethodName := ⟨R_M, "act", "()Z"⟩
abbrev w_M_act : List Cond := Cond.code y_M_act b_M_act 1 (some .boolean) :: lw_g
set_option maxRecDepth 100000 in
theorem m_code_M_act : Cond.code y_M_act b_M_act 1 (some .boolean) ∈ lw_g := k_g (List.mem_of_getElem? (i := 576) rfl) rfl
theorem m_inst_M_act : Cond.instanceMethod y_M_act ∈ lw_g := k_g (List.mem_of_getElem? (i := 575) (by decide +kernel)) rfl
theorem m_sel_M_act : Cond.selects R_M y_M_act y_M_act ∈ lw_g := k_g (List.mem_of_getElem? (i := 26) (by decide +kernel)) rfl
theorem h_M_act : y_M_act.cls ≠ "java/lang/invoke/MethodHandle" ∧ y_M_act.cls ≠ "java/lang/invoke/VarHandle" ∧ (parseMethodDescriptor y_M_act.desc).map (fun d => d.parameters.length) = some 0 := by decide +kernel
abbrev b_M_store : ByteArray := prog_7_method_17_code
def y_M_store : MethodName := ⟨R_M, "store", "(III)Z"⟩
abbrev w_M_store : List Cond := Cond.code y_M_store b_M_store 4 (some .boolean) :: lw_g
set_option maxRecDepth 100000 in
theorem m_code_M_store : Cond.code y_M_store b_M_store 4 (some .boolean) ∈ lw_g := k_g (List.mem_of_getElem? (i := 584) rfl) rfl
theorem m_inst_M_store : Cond.instanceMethod y_M_store ∈ lw_g := k_g (List.mem_of_getElem? (i := 583) (by decide +kernel)) rfl
theorem m_sel_M_store : Cond.selects R_M y_M_store y_M_store ∈ lw_g := k_g (List.mem_of_getElem? (i := 28) (by decide +kernel)) rfl
theorem h_M_store : y_M_store.cls ≠ "java/lang/invoke/MethodHandle" ∧ y_M_store.cls ≠ "java/lang/invoke/VarHandle" ∧ (parseMethodDescriptor y_M_store.desc).map (fun d => d.parameters.length) = some 3 := by decide +kernel
abbrev b_M_apply : ByteArray := prog_7_method_18_code
def y_M_apply : MethodName := ⟨R_M, "apply", "()Z"⟩
abbrev w_M_apply : List Cond := Cond.code y_M_apply b_M_apply 2 (some .boolean) :: lw_g
set_option maxRecDepth 100000 in
theorem m_code_M_apply : Cond.code y_M_apply b_M_apply 2 (some .boolean) ∈ lw_g := k_g (List.mem_of_getElem? (i := 580) rfl) rfl
theorem m_inst_M_apply : Cond.instanceMethod y_M_apply ∈ lw_g := k_g (List.mem_of_getElem? (i := 579) (by decide +kernel)) rfl
theorem m_sel_M_apply : Cond.selects R_M y_M_apply y_M_apply ∈ lw_g := k_g (List.mem_of_getElem? (i := 27) (by decide +kernel)) rfl
theorem h_M_apply : y_M_apply.cls ≠ "java/lang/invoke/MethodHandle" ∧ y_M_apply.cls ≠ "java/lang/invoke/VarHandle" ∧ (parseMethodDescriptor y_M_apply.desc).map (fun d => d.parameters.length) = some 0 := by decide +kernel
abbrev b_M_read : ByteArray := prog_7_method_19_code
def y_M_read : MethodName := ⟨R_M, "read", "(I)J"⟩
abbrev w_M_read : List Cond := Cond.code y_M_read b_M_read 4 (some .long) :: lw_g
set_option maxRecDepth 100000 in
theorem m_code_M_read : Cond.code y_M_read b_M_read 4 (some .long) ∈ lw_g := k_g (List.mem_of_getElem? (i := 508) rfl) rfl
theorem m_inst_M_read : Cond.instanceMethod y_M_read ∈ lw_g := k_g (List.mem_of_getElem? (i := 506) (by decide +kernel)) rfl
theorem m_sel_M_read : Cond.selects R_M y_M_read y_M_read ∈ lw_g := k_g (List.mem_of_getElem? (i := 507) (by decide +kernel)) rfl
theorem h_M_read : y_M_read.cls ≠ "java/lang/invoke/MethodHandle" ∧ y_M_read.cls ≠ "java/lang/invoke/VarHandle" ∧ (parseMethodDescriptor y_M_read.desc).map (fun d => d.parameters.length) = some 1 := by decide +kernel
abbrev b_M_write : ByteArray := prog_7_method_20_code
def y_M_write : MethodName := ⟨R_M, "write", "(II)I"⟩
abbrev w_M_write : List Cond := Cond.code y_M_write b_M_write 3 (some .int) :: lw_g
set_option maxRecDepth 100000 in
theorem m_code_M_write : Cond.code y_M_write b_M_write 3 (some .int) ∈ lw_g := k_g (List.mem_of_getElem? (i := 564) rfl) rfl
theorem m_inst_M_write : Cond.instanceMethod y_M_write ∈ lw_g := k_g (List.mem_of_getElem? (i := 562) (by decide +kernel)) rfl
theorem m_sel_M_write : Cond.selects R_M y_M_write y_M_write ∈ lw_g := k_g (List.mem_of_getElem? (i := 563) (by decide +kernel)) rfl
theorem h_M_write : y_M_write.cls ≠ "java/lang/invoke/MethodHandle" ∧ y_M_write.cls ≠ "java/lang/invoke/VarHandle" ∧ (parseMethodDescriptor y_M_write.desc).map (fun d => d.parameters.length) = some 2 := by decide +kernel
abbrev b_M_writeRun : ByteArray := prog_7_method_21_code
def y_M_writeRun : MethodName := ⟨R_M, "writeRun", "(III)I"⟩
abbrev w_M_writeRun : List Cond := Cond.code y_M_writeRun b_M_writeRun 9 (some .int) :: lw_g
set_option maxRecDepth 100000 in
theorem m_code_M_writeRun : Cond.code y_M_writeRun b_M_writeRun 9 (some .int) ∈ lw_g := k_g (List.mem_of_getElem? (i := 568) rfl) rfl
theorem m_inst_M_writeRun : Cond.instanceMethod y_M_writeRun ∈ lw_g := k_g (List.mem_of_getElem? (i := 566) (by decide +kernel)) rfl
theorem m_sel_M_writeRun : Cond.selects R_M y_M_writeRun y_M_writeRun ∈ lw_g := k_g (List.mem_of_getElem? (i := 567) (by decide +kernel)) rfl
theorem h_M_writeRun : y_M_writeRun.cls ≠ "java/lang/invoke/MethodHandle" ∧ y_M_writeRun.cls ≠ "java/lang/invoke/VarHandle" ∧ (parseMethodDescriptor y_M_writeRun.desc).map (fun d => d.parameters.length) = some 3 := by decide +kernel
abbrev b_M_writeStripe : ByteArray := prog_7_method_22_code
def y_M_writeStripe : MethodName := ⟨R_M, "writeStripe", "(IIII)Z"⟩
abbrev w_M_writeStripe : List Cond := Cond.code y_M_writeStripe b_M_writeStripe 13 (some .boolean) :: lw_g
set_option maxRecDepth 100000 in
theorem m_code_M_writeStripe : Cond.code y_M_writeStripe b_M_writeStripe 13 (some .boolean) ∈ lw_g := k_g (List.mem_of_getElem? (i := 572) rfl) rfl
theorem m_inst_M_writeStripe : Cond.instanceMethod y_M_writeStripe ∈ lw_g := k_g (List.mem_of_getElem? (i := 571) (by decide +kernel)) rfl
theorem m_sel_M_writeStripe : Cond.selects R_M y_M_writeStripe y_M_writeStripe ∈ lw_g := k_g (List.mem_of_getElem? (i := 25) (by decide +kernel)) rfl
theorem h_M_writeStripe : y_M_writeStripe.cls ≠ "java/lang/invoke/MethodHandle" ∧ y_M_writeStripe.cls ≠ "java/lang/invoke/VarHandle" ∧ (parseMethodDescriptor y_M_writeStripe.desc).map (fun d => d.parameters.length) = some 4 := by decide +kernel
abbrev b_M_fail : ByteArray := prog_7_method_23_code
def y_M_fail : MethodName := ⟨R_M, "fail", "(I)Z"⟩
abbrev w_M_fail : List Cond := Cond.code y_M_fail b_M_fail 2 (some .boolean) :: lw_g
set_option maxRecDepth 100000 in
theorem m_code_M_fail : Cond.code y_M_fail b_M_fail 2 (some .boolean) ∈ lw_g := k_g (List.mem_of_getElem? (i := 589) rfl) rfl
theorem m_inst_M_fail : Cond.instanceMethod y_M_fail ∈ lw_g := k_g (List.mem_of_getElem? (i := 587) (by decide +kernel)) rfl
theorem m_sel_M_fail : Cond.selects R_M y_M_fail y_M_fail ∈ lw_g := k_g (List.mem_of_getElem? (i := 588) (by decide +kernel)) rfl
theorem h_M_fail : y_M_fail.cls ≠ "java/lang/invoke/MethodHandle" ∧ y_M_fail.cls ≠ "java/lang/invoke/VarHandle" ∧ (parseMethodDescriptor y_M_fail.desc).map (fun d => d.parameters.length) = some 1 := by decide +kernel
abbrev b_M_replace : ByteArray := prog_7_method_24_code
def y_M_replace : MethodName := ⟨R_M, "replace", "(I)Z"⟩
abbrev w_M_replace : List Cond := Cond.code y_M_replace b_M_replace 2 (some .boolean) :: lw_g
set_option maxRecDepth 100000 in
theorem m_code_M_replace : Cond.code y_M_replace b_M_replace 2 (some .boolean) ∈ lw_g := k_g (List.mem_of_getElem? (i := 593) rfl) rfl
theorem m_inst_M_replace : Cond.instanceMethod y_M_replace ∈ lw_g := k_g (List.mem_of_getElem? (i := 591) (by decide +kernel)) rfl
theorem m_sel_M_replace : Cond.selects R_M y_M_replace y_M_replace ∈ lw_g := k_g (List.mem_of_getElem? (i := 592) (by decide +kernel)) rfl
theorem h_M_replace : y_M_replace.cls ≠ "java/lang/invoke/MethodHandle" ∧ y_M_replace.cls ≠ "java/lang/invoke/VarHandle" ∧ (parseMethodDescriptor y_M_replace.desc).map (fun d => d.parameters.length) = some 1 := by decide +kernel
abbrev b_M_rebuild : ByteArray := prog_7_method_25_code
def y_M_rebuild : MethodName := ⟨R_M, "rebuild", "()I"⟩
abbrev w_M_rebuild : List Cond := Cond.code y_M_rebuild b_M_rebuild 4 (some .int) :: lw_g
set_option maxRecDepth 100000 in
theorem m_code_M_rebuild : Cond.code y_M_rebuild b_M_rebuild 4 (some .int) ∈ lw_g := k_g (List.mem_of_getElem? (i := 597) rfl) rfl
theorem m_inst_M_rebuild : Cond.instanceMethod y_M_rebuild ∈ lw_g := k_g (List.mem_of_getElem? (i := 595) (by decide +kernel)) rfl
theorem m_sel_M_rebuild : Cond.selects R_M y_M_rebuild y_M_rebuild ∈ lw_g := k_g (List.mem_of_getElem? (i := 596) (by decide +kernel)) rfl
theorem h_M_rebuild : y_M_rebuild.cls ≠ "java/lang/invoke/MethodHandle" ∧ y_M_rebuild.cls ≠ "java/lang/invoke/VarHandle" ∧ (parseMethodDescriptor y_M_rebuild.desc).map (fun d => d.parameters.length) = some 0 := by decide +kernel
abbrev b_M_scrub : ByteArray := prog_7_method_26_code
def y_M_scrub : MethodName := ⟨R_M, "scrub", "(I)I"⟩
abbrev w_M_scrub : List Cond := Cond.code y_M_scrub b_M_scrub 6 (some .int) :: lw_g
set_option maxRecDepth 100000 in
theorem m_code_M_scrub : Cond.code y_M_scrub b_M_scrub 6 (some .int) ∈ lw_g := k_g (List.mem_of_getElem? (i := 605) rfl) rfl
theorem m_inst_M_scrub : Cond.instanceMethod y_M_scrub ∈ lw_g := k_g (List.mem_of_getElem? (i := 603) (by decide +kernel)) rfl
theorem m_sel_M_scrub : Cond.selects R_M y_M_scrub y_M_scrub ∈ lw_g := k_g (List.mem_of_getElem? (i := 604) (by decide +kernel)) rfl
theorem h_M_scrub : y_M_scrub.cls ≠ "java/lang/invoke/MethodHandle" ∧ y_M_scrub.cls ≠ "java/lang/invoke/VarHandle" ∧ (parseMethodDescriptor y_M_scrub.desc).map (fun d => d.parameters.length) = some 1 := by decide +kernel
abbrev b_M_isCell : ByteArray := prog_7_method_27_code
def y_M_isCell : MethodName := ⟨R_M, "isCell", "(II)Z"⟩
abbrev w_M_isCell : List Cond := Cond.code y_M_isCell b_M_isCell 3 (some .boolean) :: lw_g
set_option maxRecDepth 100000 in
theorem m_code_M_isCell : Cond.code y_M_isCell b_M_isCell 3 (some .boolean) ∈ lw_g := k_g (List.mem_of_getElem? (i := 613) rfl) rfl
theorem m_inst_M_isCell : Cond.instanceMethod y_M_isCell ∈ lw_g := k_g (List.mem_of_getElem? (i := 612) (by decide +kernel)) rfl
theorem m_sel_M_isCell : Cond.selects R_M y_M_isCell y_M_isCell ∈ lw_g := k_g (List.mem_of_getElem? (i := 30) (by decide +kernel)) rfl
theorem h_M_isCell : y_M_isCell.cls ≠ "java/lang/invoke/MethodHandle" ∧ y_M_isCell.cls ≠ "java/lang/invoke/VarHandle" ∧ (parseMethodDescriptor y_M_isCell.desc).map (fun d => d.parameters.length) = some 2 := by decide +kernel
abbrev b_M_corrupt : ByteArray := prog_7_method_28_code
def y_M_corrupt : MethodName := ⟨R_M, "corrupt", "(III)Z"⟩
abbrev w_M_corrupt : List Cond := Cond.code y_M_corrupt b_M_corrupt 4 (some .boolean) :: lw_g
set_option maxRecDepth 100000 in
theorem m_code_M_corrupt : Cond.code y_M_corrupt b_M_corrupt 4 (some .boolean) ∈ lw_g := k_g (List.mem_of_getElem? (i := 609) rfl) rfl
theorem m_inst_M_corrupt : Cond.instanceMethod y_M_corrupt ∈ lw_g := k_g (List.mem_of_getElem? (i := 607) (by decide +kernel)) rfl
theorem m_sel_M_corrupt : Cond.selects R_M y_M_corrupt y_M_corrupt ∈ lw_g := k_g (List.mem_of_getElem? (i := 608) (by decide +kernel)) rfl
theorem h_M_corrupt : y_M_corrupt.cls ≠ "java/lang/invoke/MethodHandle" ∧ y_M_corrupt.cls ≠ "java/lang/invoke/VarHandle" ∧ (parseMethodDescriptor y_M_corrupt.desc).map (fun d => d.parameters.length) = some 3 := by decide +kernel
abbrev b_M_arm : ByteArray := prog_7_method_29_code
def y_M_arm : MethodName := ⟨R_M, "arm", "(I)Z"⟩
abbrev w_M_arm : List Cond := Cond.code y_M_arm b_M_arm 2 (some .boolean) :: lw_g
set_option maxRecDepth 100000 in
theorem m_code_M_arm : Cond.code y_M_arm b_M_arm 2 (some .boolean) ∈ lw_g := k_g (List.mem_of_getElem? (i := 617) rfl) rfl
theorem m_inst_M_arm : Cond.instanceMethod y_M_arm ∈ lw_g := k_g (List.mem_of_getElem? (i := 615) (by decide +kernel)) rfl
theorem m_sel_M_arm : Cond.selects R_M y_M_arm y_M_arm ∈ lw_g := k_g (List.mem_of_getElem? (i := 616) (by decide +kernel)) rfl
theorem h_M_arm : y_M_arm.cls ≠ "java/lang/invoke/MethodHandle" ∧ y_M_arm.cls ≠ "java/lang/invoke/VarHandle" ∧ (parseMethodDescriptor y_M_arm.desc).map (fun d => d.parameters.length) = some 1 := by decide +kernel
abbrev b_M_crash : ByteArray := prog_7_method_30_code
def y_M_crash : MethodName := ⟨R_M, "crash", "()Z"⟩
abbrev w_M_crash : List Cond := Cond.code y_M_crash b_M_crash 1 (some .boolean) :: lw_g
set_option maxRecDepth 100000 in
theorem m_code_M_crash : Cond.code y_M_crash b_M_crash 1 (some .boolean) ∈ lw_g := k_g (List.mem_of_getElem? (i := 621) rfl) rfl
theorem m_inst_M_crash : Cond.instanceMethod y_M_crash ∈ lw_g := k_g (List.mem_of_getElem? (i := 619) (by decide +kernel)) rfl
theorem m_sel_M_crash : Cond.selects R_M y_M_crash y_M_crash ∈ lw_g := k_g (List.mem_of_getElem? (i := 620) (by decide +kernel)) rfl
theorem h_M_crash : y_M_crash.cls ≠ "java/lang/invoke/MethodHandle" ∧ y_M_crash.cls ≠ "java/lang/invoke/VarHandle" ∧ (parseMethodDescriptor y_M_crash.desc).map (fun d => d.parameters.length) = some 0 := by decide +kernel
abbrev b_M_restart : ByteArray := prog_7_method_31_code
def y_M_restart : MethodName := ⟨R_M, "restart", "()I"⟩
abbrev w_M_restart : List Cond := Cond.code y_M_restart b_M_restart 1 (some .int) :: lw_g
set_option maxRecDepth 100000 in
theorem m_code_M_restart : Cond.code y_M_restart b_M_restart 1 (some .int) ∈ lw_g := k_g (List.mem_of_getElem? (i := 625) rfl) rfl
theorem m_inst_M_restart : Cond.instanceMethod y_M_restart ∈ lw_g := k_g (List.mem_of_getElem? (i := 623) (by decide +kernel)) rfl
theorem m_sel_M_restart : Cond.selects R_M y_M_restart y_M_restart ∈ lw_g := k_g (List.mem_of_getElem? (i := 624) (by decide +kernel)) rfl
theorem h_M_restart : y_M_restart.cls ≠ "java/lang/invoke/MethodHandle" ∧ y_M_restart.cls ≠ "java/lang/invoke/VarHandle" ∧ (parseMethodDescriptor y_M_restart.desc).map (fun d => d.parameters.length) = some 0 := by decide +kernel
abbrev b_M_faults : ByteArray := prog_7_method_32_code
def y_M_faults : MethodName := ⟨R_M, "faults", "()I"⟩
abbrev w_M_faults : List Cond := Cond.code y_M_faults b_M_faults 3 (some .int) :: lw_g
set_option maxRecDepth 100000 in
theorem m_code_M_faults : Cond.code y_M_faults b_M_faults 3 (some .int) ∈ lw_g := k_g (List.mem_of_getElem? (i := 629) rfl) rfl
theorem m_inst_M_faults : Cond.instanceMethod y_M_faults ∈ lw_g := k_g (List.mem_of_getElem? (i := 627) (by decide +kernel)) rfl
theorem m_sel_M_faults : Cond.selects R_M y_M_faults y_M_faults ∈ lw_g := k_g (List.mem_of_getElem? (i := 628) (by decide +kernel)) rfl
theorem h_M_faults : y_M_faults.cls ≠ "java/lang/invoke/MethodHandle" ∧ y_M_faults.cls ≠ "java/lang/invoke/VarHandle" ∧ (parseMethodDescriptor y_M_faults.desc).map (fun d => d.parameters.length) = some 0 := by decide +kernel
abbrev b_M_peek : ByteArray := prog_7_method_33_code
def y_M_peek : MethodName := ⟨R_M, "peek", "(II)J"⟩
abbrev w_M_peek : List Cond := Cond.code y_M_peek b_M_peek 3 (some .long) :: lw_g
set_option maxRecDepth 100000 in
theorem m_code_M_peek : Cond.code y_M_peek b_M_peek 3 (some .long) ∈ lw_g := k_g (List.mem_of_getElem? (i := 633) rfl) rfl
theorem m_inst_M_peek : Cond.instanceMethod y_M_peek ∈ lw_g := k_g (List.mem_of_getElem? (i := 631) (by decide +kernel)) rfl
theorem m_sel_M_peek : Cond.selects R_M y_M_peek y_M_peek ∈ lw_g := k_g (List.mem_of_getElem? (i := 632) (by decide +kernel)) rfl
theorem h_M_peek : y_M_peek.cls ≠ "java/lang/invoke/MethodHandle" ∧ y_M_peek.cls ≠ "java/lang/invoke/VarHandle" ∧ (parseMethodDescriptor y_M_peek.desc).map (fun d => d.parameters.length) = some 2 := by decide +kernel
abbrev b_M_locate : ByteArray := prog_7_method_34_code
def y_M_locate : MethodName := ⟨R_M, "locate", "(I)I"⟩
abbrev w_M_locate : List Cond := Cond.code y_M_locate b_M_locate 2 (some .int) :: lw_g
set_option maxRecDepth 100000 in
theorem m_code_M_locate : Cond.code y_M_locate b_M_locate 2 (some .int) ∈ lw_g := k_g (List.mem_of_getElem? (i := 637) rfl) rfl
theorem m_inst_M_locate : Cond.instanceMethod y_M_locate ∈ lw_g := k_g (List.mem_of_getElem? (i := 635) (by decide +kernel)) rfl
theorem m_sel_M_locate : Cond.selects R_M y_M_locate y_M_locate ∈ lw_g := k_g (List.mem_of_getElem? (i := 636) (by decide +kernel)) rfl
theorem h_M_locate : y_M_locate.cls ≠ "java/lang/invoke/MethodHandle" ∧ y_M_locate.cls ≠ "java/lang/invoke/VarHandle" ∧ (parseMethodDescriptor y_M_locate.desc).map (fun d => d.parameters.length) = some 1 := by decide +kernel
abbrev b_M_position : ByteArray := prog_7_method_35_code
def y_M_position : MethodName := ⟨R_M, "position", "(I)I"⟩
abbrev w_M_position : List Cond := Cond.code y_M_position b_M_position 2 (some .int) :: lw_g
set_option maxRecDepth 100000 in
theorem m_code_M_position : Cond.code y_M_position b_M_position 2 (some .int) ∈ lw_g := k_g (List.mem_of_getElem? (i := 641) rfl) rfl
theorem m_inst_M_position : Cond.instanceMethod y_M_position ∈ lw_g := k_g (List.mem_of_getElem? (i := 639) (by decide +kernel)) rfl
theorem m_sel_M_position : Cond.selects R_M y_M_position y_M_position ∈ lw_g := k_g (List.mem_of_getElem? (i := 640) (by decide +kernel)) rfl
theorem h_M_position : y_M_position.cls ≠ "java/lang/invoke/MethodHandle" ∧ y_M_position.cls ≠ "java/lang/invoke/VarHandle" ∧ (parseMethodDescriptor y_M_position.desc).map (fun d => d.parameters.length) = some 1 := by decide +kernel
abbrev b_M_mode : ByteArray := prog_7_method_36_code
def y_M_mode : MethodName := ⟨R_M, "mode", "()I"⟩
abbrev w_M_mode : List Cond := Cond.code y_M_mode b_M_mode 1 (some .int) :: lw_g
set_option maxRecDepth 100000 in
theorem m_code_M_mode : Cond.code y_M_mode b_M_mode 1 (some .int) ∈ lw_g := k_g (List.mem_of_getElem? (i := 645) rfl) rfl
theorem m_inst_M_mode : Cond.instanceMethod y_M_mode ∈ lw_g := k_g (List.mem_of_getElem? (i := 643) (by decide +kernel)) rfl
theorem m_sel_M_mode : Cond.selects R_M y_M_mode y_M_mode ∈ lw_g := k_g (List.mem_of_getElem? (i := 644) (by decide +kernel)) rfl
theorem h_M_mode : y_M_mode.cls ≠ "java/lang/invoke/MethodHandle" ∧ y_M_mode.cls ≠ "java/lang/invoke/VarHandle" ∧ (parseMethodDescriptor y_M_mode.desc).map (fun d => d.parameters.length) = some 0 := by decide +kernel
abbrev b_M_logged : ByteArray := prog_7_method_37_code
def y_M_logged : MethodName := ⟨R_M, "logged", "()I"⟩
abbrev w_M_logged : List Cond := Cond.code y_M_logged b_M_logged 1 (some .int) :: lw_g
set_option maxRecDepth 100000 in
theorem m_code_M_logged : Cond.code y_M_logged b_M_logged 1 (some .int) ∈ lw_g := k_g (List.mem_of_getElem? (i := 649) rfl) rfl
theorem m_inst_M_logged : Cond.instanceMethod y_M_logged ∈ lw_g := k_g (List.mem_of_getElem? (i := 647) (by decide +kernel)) rfl
theorem m_sel_M_logged : Cond.selects R_M y_M_logged y_M_logged ∈ lw_g := k_g (List.mem_of_getElem? (i := 648) (by decide +kernel)) rfl
theorem h_M_logged : y_M_logged.cls ≠ "java/lang/invoke/MethodHandle" ∧ y_M_logged.cls ≠ "java/lang/invoke/VarHandle" ∧ (parseMethodDescriptor y_M_logged.desc).map (fun d => d.parameters.length) = some 0 := by decide +kernel
abbrev b_M_spares : ByteArray := prog_7_method_38_code
def y_M_spares : MethodName := ⟨R_M, "spares", "()I"⟩
abbrev w_M_spares : List Cond := Cond.code y_M_spares b_M_spares 1 (some .int) :: lw_g
set_option maxRecDepth 100000 in
theorem m_code_M_spares : Cond.code y_M_spares b_M_spares 1 (some .int) ∈ lw_g := k_g (List.mem_of_getElem? (i := 653) rfl) rfl
theorem m_inst_M_spares : Cond.instanceMethod y_M_spares ∈ lw_g := k_g (List.mem_of_getElem? (i := 651) (by decide +kernel)) rfl
theorem m_sel_M_spares : Cond.selects R_M y_M_spares y_M_spares ∈ lw_g := k_g (List.mem_of_getElem? (i := 652) (by decide +kernel)) rfl
theorem h_M_spares : y_M_spares.cls ≠ "java/lang/invoke/MethodHandle" ∧ y_M_spares.cls ≠ "java/lang/invoke/VarHandle" ∧ (parseMethodDescriptor y_M_spares.desc).map (fun d => d.parameters.length) = some 0 := by decide +kernel
abbrev b_M_reads : ByteArray := prog_7_method_39_code
def y_M_reads : MethodName := ⟨R_M, "reads", "()I"⟩
abbrev w_M_reads : List Cond := Cond.code y_M_reads b_M_reads 1 (some .int) :: lw_g
set_option maxRecDepth 100000 in
theorem m_code_M_reads : Cond.code y_M_reads b_M_reads 1 (some .int) ∈ lw_g := k_g (List.mem_of_getElem? (i := 657) rfl) rfl
theorem m_inst_M_reads : Cond.instanceMethod y_M_reads ∈ lw_g := k_g (List.mem_of_getElem? (i := 655) (by decide +kernel)) rfl
theorem m_sel_M_reads : Cond.selects R_M y_M_reads y_M_reads ∈ lw_g := k_g (List.mem_of_getElem? (i := 656) (by decide +kernel)) rfl
theorem h_M_reads : y_M_reads.cls ≠ "java/lang/invoke/MethodHandle" ∧ y_M_reads.cls ≠ "java/lang/invoke/VarHandle" ∧ (parseMethodDescriptor y_M_reads.desc).map (fun d => d.parameters.length) = some 0 := by decide +kernel
abbrev b_M_writes : ByteArray := prog_7_method_40_code
def y_M_writes : MethodName := ⟨R_M, "writes", "()I"⟩
abbrev w_M_writes : List Cond := Cond.code y_M_writes b_M_writes 1 (some .int) :: lw_g
set_option maxRecDepth 100000 in
theorem m_code_M_writes : Cond.code y_M_writes b_M_writes 1 (some .int) ∈ lw_g := k_g (List.mem_of_getElem? (i := 661) rfl) rfl
theorem m_inst_M_writes : Cond.instanceMethod y_M_writes ∈ lw_g := k_g (List.mem_of_getElem? (i := 659) (by decide +kernel)) rfl
theorem m_sel_M_writes : Cond.selects R_M y_M_writes y_M_writes ∈ lw_g := k_g (List.mem_of_getElem? (i := 660) (by decide +kernel)) rfl
theorem h_M_writes : y_M_writes.cls ≠ "java/lang/invoke/MethodHandle" ∧ y_M_writes.cls ≠ "java/lang/invoke/VarHandle" ∧ (parseMethodDescriptor y_M_writes.desc).map (fun d => d.parameters.length) = some 0 := by decide +kernel
abbrev b_D_init : ByteArray := prog_2_method_1_code
def y_D_init : MethodName := ⟨R_D, "<init>", "(II)V"⟩
abbrev w_D_init : List Cond := Cond.code y_D_init b_D_init 4 none :: lw_g
set_option maxRecDepth 100000 in
theorem m_code_D_init : Cond.code y_D_init b_D_init 4 none ∈ lw_g := k_g (List.mem_of_getElem? (i := 60) rfl) rfl
theorem m_inst_D_init : Cond.instanceMethod y_D_init ∈ lw_g := k_g (List.mem_of_getElem? (i := 59) (by decide +kernel)) rfl
theorem h_D_init : y_D_init.cls ≠ "java/lang/invoke/MethodHandle" ∧ y_D_init.cls ≠ "java/lang/invoke/VarHandle" ∧ (parseMethodDescriptor y_D_init.desc).map (fun d => d.parameters.length) = some 2 := by decide +kernel
abbrev b_D_hasDisk : ByteArray := prog_2_method_2_code
def y_D_hasDisk : MethodName := ⟨R_D, "hasDisk", "(I)Z"⟩
abbrev w_D_hasDisk : List Cond := Cond.code y_D_hasDisk b_D_hasDisk 2 (some .boolean) :: lw_g
set_option maxRecDepth 100000 in
theorem m_code_D_hasDisk : Cond.code y_D_hasDisk b_D_hasDisk 2 (some .boolean) ∈ lw_g := k_g (List.mem_of_getElem? (i := 327) rfl) rfl
theorem m_inst_D_hasDisk : Cond.instanceMethod y_D_hasDisk ∈ lw_g := k_g (List.mem_of_getElem? (i := 325) (by decide +kernel)) rfl
theorem m_sel_D_hasDisk : Cond.selects R_D y_D_hasDisk y_D_hasDisk ∈ lw_g := k_g (List.mem_of_getElem? (i := 326) (by decide +kernel)) rfl
theorem h_D_hasDisk : y_D_hasDisk.cls ≠ "java/lang/invoke/MethodHandle" ∧ y_D_hasDisk.cls ≠ "java/lang/invoke/VarHandle" ∧ (parseMethodDescriptor y_D_hasDisk.desc).map (fun d => d.parameters.length) = some 1 := by decide +kernel
abbrev b_D_hasStripe : ByteArray := prog_2_method_3_code
def y_D_hasStripe : MethodName := ⟨R_D, "hasStripe", "(I)Z"⟩
abbrev w_D_hasStripe : List Cond := Cond.code y_D_hasStripe b_D_hasStripe 2 (some .boolean) :: lw_g
set_option maxRecDepth 100000 in
theorem m_code_D_hasStripe : Cond.code y_D_hasStripe b_D_hasStripe 2 (some .boolean) ∈ lw_g := k_g (List.mem_of_getElem? (i := 372) rfl) rfl
theorem m_inst_D_hasStripe : Cond.instanceMethod y_D_hasStripe ∈ lw_g := k_g (List.mem_of_getElem? (i := 370) (by decide +kernel)) rfl
theorem m_sel_D_hasStripe : Cond.selects R_D y_D_hasStripe y_D_hasStripe ∈ lw_g := k_g (List.mem_of_getElem? (i := 371) (by decide +kernel)) rfl
theorem h_D_hasStripe : y_D_hasStripe.cls ≠ "java/lang/invoke/MethodHandle" ∧ y_D_hasStripe.cls ≠ "java/lang/invoke/VarHandle" ∧ (parseMethodDescriptor y_D_hasStripe.desc).map (fun d => d.parameters.length) = some 1 := by decide +kernel
abbrev b_D_hasCell : ByteArray := prog_2_method_4_code
def y_D_hasCell : MethodName := ⟨R_D, "hasCell", "(II)Z"⟩
abbrev w_D_hasCell : List Cond := Cond.code y_D_hasCell b_D_hasCell 3 (some .boolean) :: lw_g
set_option maxRecDepth 100000 in
theorem m_code_D_hasCell : Cond.code y_D_hasCell b_D_hasCell 3 (some .boolean) ∈ lw_g := k_g (List.mem_of_getElem? (i := 392) rfl) rfl
theorem m_inst_D_hasCell : Cond.instanceMethod y_D_hasCell ∈ lw_g := k_g (List.mem_of_getElem? (i := 390) (by decide +kernel)) rfl
theorem m_sel_D_hasCell : Cond.selects R_D y_D_hasCell y_D_hasCell ∈ lw_g := k_g (List.mem_of_getElem? (i := 391) (by decide +kernel)) rfl
theorem h_D_hasCell : y_D_hasCell.cls ≠ "java/lang/invoke/MethodHandle" ∧ y_D_hasCell.cls ≠ "java/lang/invoke/VarHandle" ∧ (parseMethodDescriptor y_D_hasCell.desc).map (fun d => d.parameters.length) = some 2 := by decide +kernel
abbrev b_D_diskOf : ByteArray := prog_2_method_5_code
def y_D_diskOf : MethodName := ⟨R_D, "diskOf", "(II)I"⟩
abbrev w_D_diskOf : List Cond := Cond.code y_D_diskOf b_D_diskOf 3 (some .int) :: lw_g
set_option maxRecDepth 100000 in
theorem m_code_D_diskOf : Cond.code y_D_diskOf b_D_diskOf 3 (some .int) ∈ lw_g := k_g (List.mem_of_getElem? (i := 172) rfl) rfl
theorem m_inst_D_diskOf : Cond.instanceMethod y_D_diskOf ∈ lw_g := k_g (List.mem_of_getElem? (i := 170) (by decide +kernel)) rfl
theorem m_sel_D_diskOf : Cond.selects R_D y_D_diskOf y_D_diskOf ∈ lw_g := k_g (List.mem_of_getElem? (i := 171) (by decide +kernel)) rfl
theorem h_D_diskOf : y_D_diskOf.cls ≠ "java/lang/invoke/MethodHandle" ∧ y_D_diskOf.cls ≠ "java/lang/invoke/VarHandle" ∧ (parseMethodDescriptor y_D_diskOf.desc).map (fun d => d.parameters.length) = some 2 := by decide +kernel
abbrev b_D_slotOf : ByteArray := prog_2_method_6_code
def y_D_slotOf : MethodName := ⟨R_D, "slotOf", "(II)I"⟩
abbrev w_D_slotOf : List Cond := Cond.code y_D_slotOf b_D_slotOf 3 (some .int) :: lw_g
set_option maxRecDepth 100000 in
theorem m_code_D_slotOf : Cond.code y_D_slotOf b_D_slotOf 3 (some .int) ∈ lw_g := k_g (List.mem_of_getElem? (i := 360) rfl) rfl
theorem m_inst_D_slotOf : Cond.instanceMethod y_D_slotOf ∈ lw_g := k_g (List.mem_of_getElem? (i := 358) (by decide +kernel)) rfl
theorem m_sel_D_slotOf : Cond.selects R_D y_D_slotOf y_D_slotOf ∈ lw_g := k_g (List.mem_of_getElem? (i := 359) (by decide +kernel)) rfl
theorem h_D_slotOf : y_D_slotOf.cls ≠ "java/lang/invoke/MethodHandle" ∧ y_D_slotOf.cls ≠ "java/lang/invoke/VarHandle" ∧ (parseMethodDescriptor y_D_slotOf.desc).map (fun d => d.parameters.length) = some 2 := by decide +kernel
abbrev b_D_diskOfP : ByteArray := prog_2_method_7_code
def y_D_diskOfP : MethodName := ⟨R_D, "diskOfP", "(I)I"⟩
abbrev w_D_diskOfP : List Cond := Cond.code y_D_diskOfP b_D_diskOfP 2 (some .int) :: lw_g
set_option maxRecDepth 100000 in
theorem m_code_D_diskOfP : Cond.code y_D_diskOfP b_D_diskOfP 2 (some .int) ∈ lw_g := k_g (List.mem_of_getElem? (i := 176) rfl) rfl
theorem m_inst_D_diskOfP : Cond.instanceMethod y_D_diskOfP ∈ lw_g := k_g (List.mem_of_getElem? (i := 175) (by decide +kernel)) rfl
theorem m_sel_D_diskOfP : Cond.selects R_D y_D_diskOfP y_D_diskOfP ∈ lw_g := k_g (List.mem_of_getElem? (i := 3) (by decide +kernel)) rfl
theorem h_D_diskOfP : y_D_diskOfP.cls ≠ "java/lang/invoke/MethodHandle" ∧ y_D_diskOfP.cls ≠ "java/lang/invoke/VarHandle" ∧ (parseMethodDescriptor y_D_diskOfP.desc).map (fun d => d.parameters.length) = some 1 := by decide +kernel
abbrev b_D_available : ByteArray := prog_2_method_8_code
def y_D_available : MethodName := ⟨R_D, "available", "(II)Z"⟩
abbrev w_D_available : List Cond := Cond.code y_D_available b_D_available 3 (some .boolean) :: lw_g
set_option maxRecDepth 100000 in
theorem m_code_D_available : Cond.code y_D_available b_D_available 3 (some .boolean) ∈ lw_g := k_g (List.mem_of_getElem? (i := 180) rfl) rfl
theorem m_inst_D_available : Cond.instanceMethod y_D_available ∈ lw_g := k_g (List.mem_of_getElem? (i := 178) (by decide +kernel)) rfl
theorem m_sel_D_available : Cond.selects R_D y_D_available y_D_available ∈ lw_g := k_g (List.mem_of_getElem? (i := 179) (by decide +kernel)) rfl
theorem h_D_available : y_D_available.cls ≠ "java/lang/invoke/MethodHandle" ∧ y_D_available.cls ≠ "java/lang/invoke/VarHandle" ∧ (parseMethodDescriptor y_D_available.desc).map (fun d => d.parameters.length) = some 2 := by decide +kernel
abbrev b_D_countAvailable : ByteArray := prog_2_method_9_code
def y_D_countAvailable : MethodName := ⟨R_D, "countAvailable", "(I)I"⟩
abbrev w_D_countAvailable : List Cond := Cond.code y_D_countAvailable b_D_countAvailable 4 (some .int) :: lw_g
set_option maxRecDepth 100000 in
theorem m_code_D_countAvailable : Cond.code y_D_countAvailable b_D_countAvailable 4 (some .int) ∈ lw_g := k_g (List.mem_of_getElem? (i := 240) rfl) rfl
theorem m_inst_D_countAvailable : Cond.instanceMethod y_D_countAvailable ∈ lw_g := k_g (List.mem_of_getElem? (i := 238) (by decide +kernel)) rfl
theorem m_sel_D_countAvailable : Cond.selects R_D y_D_countAvailable y_D_countAvailable ∈ lw_g := k_g (List.mem_of_getElem? (i := 239) (by decide +kernel)) rfl
theorem h_D_countAvailable : y_D_countAvailable.cls ≠ "java/lang/invoke/MethodHandle" ∧ y_D_countAvailable.cls ≠ "java/lang/invoke/VarHandle" ∧ (parseMethodDescriptor y_D_countAvailable.desc).map (fun d => d.parameters.length) = some 1 := by decide +kernel
abbrev b_D_allAvailable : ByteArray := prog_2_method_10_code
def y_D_allAvailable : MethodName := ⟨R_D, "allAvailable", "(I)Z"⟩
abbrev w_D_allAvailable : List Cond := Cond.code y_D_allAvailable b_D_allAvailable 2 (some .boolean) :: lw_g
set_option maxRecDepth 100000 in
theorem m_code_D_allAvailable : Cond.code y_D_allAvailable b_D_allAvailable 2 (some .boolean) ∈ lw_g := k_g (List.mem_of_getElem? (i := 261) rfl) rfl
theorem m_inst_D_allAvailable : Cond.instanceMethod y_D_allAvailable ∈ lw_g := k_g (List.mem_of_getElem? (i := 259) (by decide +kernel)) rfl
theorem m_sel_D_allAvailable : Cond.selects R_D y_D_allAvailable y_D_allAvailable ∈ lw_g := k_g (List.mem_of_getElem? (i := 260) (by decide +kernel)) rfl
theorem h_D_allAvailable : y_D_allAvailable.cls ≠ "java/lang/invoke/MethodHandle" ∧ y_D_allAvailable.cls ≠ "java/lang/invoke/VarHandle" ∧ (parseMethodDescriptor y_D_allAvailable.desc).map (fun d => d.parameters.length) = some 1 := by decide +kernel
abbrev b_D_broken : ByteArray := prog_2_method_11_code
def y_D_broken : MethodName := ⟨R_D, "broken", "()Z"⟩
abbrev w_D_broken : List Cond := Cond.code y_D_broken b_D_broken 3 (some .boolean) :: lw_g
set_option maxRecDepth 100000 in
theorem m_code_D_broken : Cond.code y_D_broken b_D_broken 3 (some .boolean) ∈ lw_g := k_g (List.mem_of_getElem? (i := 168) rfl) rfl
theorem m_inst_D_broken : Cond.instanceMethod y_D_broken ∈ lw_g := k_g (List.mem_of_getElem? (i := 166) (by decide +kernel)) rfl
theorem m_sel_D_broken : Cond.selects R_D y_D_broken y_D_broken ∈ lw_g := k_g (List.mem_of_getElem? (i := 167) (by decide +kernel)) rfl
theorem h_D_broken : y_D_broken.cls ≠ "java/lang/invoke/MethodHandle" ∧ y_D_broken.cls ≠ "java/lang/invoke/VarHandle" ∧ (parseMethodDescriptor y_D_broken.desc).map (fun d => d.parameters.length) = some 0 := by decide +kernel
abbrev b_D_missing : ByteArray := prog_2_method_12_code
def y_D_missing : MethodName := ⟨R_D, "missing", "(I)Z"⟩
abbrev w_D_missing : List Cond := Cond.code y_D_missing b_D_missing 2 (some .boolean) :: lw_g
set_option maxRecDepth 100000 in
theorem m_code_D_missing : Cond.code y_D_missing b_D_missing 2 (some .boolean) ∈ lw_g := k_g (List.mem_of_getElem? (i := 331) rfl) rfl
theorem m_inst_D_missing : Cond.instanceMethod y_D_missing ∈ lw_g := k_g (List.mem_of_getElem? (i := 329) (by decide +kernel)) rfl
theorem m_sel_D_missing : Cond.selects R_D y_D_missing y_D_missing ∈ lw_g := k_g (List.mem_of_getElem? (i := 330) (by decide +kernel)) rfl
theorem h_D_missing : y_D_missing.cls ≠ "java/lang/invoke/MethodHandle" ∧ y_D_missing.cls ≠ "java/lang/invoke/VarHandle" ∧ (parseMethodDescriptor y_D_missing.desc).map (fun d => d.parameters.length) = some 1 := by decide +kernel
abbrev b_D_positionOf : ByteArray := prog_2_method_13_code
def y_D_positionOf : MethodName := ⟨R_D, "positionOf", "(I)I"⟩
abbrev w_D_positionOf : List Cond := Cond.code y_D_positionOf b_D_positionOf 2 (some .int) :: lw_g
set_option maxRecDepth 100000 in
theorem m_code_D_positionOf : Cond.code y_D_positionOf b_D_positionOf 2 (some .int) ∈ lw_g := k_g (List.mem_of_getElem? (i := 356) rfl) rfl
theorem m_inst_D_positionOf : Cond.instanceMethod y_D_positionOf ∈ lw_g := k_g (List.mem_of_getElem? (i := 354) (by decide +kernel)) rfl
theorem m_sel_D_positionOf : Cond.selects R_D y_D_positionOf y_D_positionOf ∈ lw_g := k_g (List.mem_of_getElem? (i := 355) (by decide +kernel)) rfl
theorem h_D_positionOf : y_D_positionOf.cls ≠ "java/lang/invoke/MethodHandle" ∧ y_D_positionOf.cls ≠ "java/lang/invoke/VarHandle" ∧ (parseMethodDescriptor y_D_positionOf.desc).map (fun d => d.parameters.length) = some 1 := by decide +kernel
abbrev b_D_remove : ByteArray := prog_2_method_14_code
def y_D_remove : MethodName := ⟨R_D, "remove", "(I)V"⟩
abbrev w_D_remove : List Cond := Cond.code y_D_remove b_D_remove 2 none :: lw_g
set_option maxRecDepth 100000 in
theorem m_code_D_remove : Cond.code y_D_remove b_D_remove 2 none ∈ lw_g := k_g (List.mem_of_getElem? (i := 335) rfl) rfl
theorem m_inst_D_remove : Cond.instanceMethod y_D_remove ∈ lw_g := k_g (List.mem_of_getElem? (i := 333) (by decide +kernel)) rfl
theorem m_sel_D_remove : Cond.selects R_D y_D_remove y_D_remove ∈ lw_g := k_g (List.mem_of_getElem? (i := 334) (by decide +kernel)) rfl
theorem h_D_remove : y_D_remove.cls ≠ "java/lang/invoke/MethodHandle" ∧ y_D_remove.cls ≠ "java/lang/invoke/VarHandle" ∧ (parseMethodDescriptor y_D_remove.desc).map (fun d => d.parameters.length) = some 1 := by decide +kernel
abbrev b_D_beginRebuilding : ByteArray := prog_2_method_15_code
def y_D_beginRebuilding : MethodName := ⟨R_D, "beginRebuilding", "(I)V"⟩
abbrev w_D_beginRebuilding : List Cond := Cond.code y_D_beginRebuilding b_D_beginRebuilding 2 none :: lw_g
set_option maxRecDepth 100000 in
theorem m_code_D_beginRebuilding : Cond.code y_D_beginRebuilding b_D_beginRebuilding 2 none ∈ lw_g := k_g (List.mem_of_getElem? (i := 343) rfl) rfl
theorem m_inst_D_beginRebuilding : Cond.instanceMethod y_D_beginRebuilding ∈ lw_g := k_g (List.mem_of_getElem? (i := 341) (by decide +kernel)) rfl
theorem m_sel_D_beginRebuilding : Cond.selects R_D y_D_beginRebuilding y_D_beginRebuilding ∈ lw_g := k_g (List.mem_of_getElem? (i := 342) (by decide +kernel)) rfl
theorem h_D_beginRebuilding : y_D_beginRebuilding.cls ≠ "java/lang/invoke/MethodHandle" ∧ y_D_beginRebuilding.cls ≠ "java/lang/invoke/VarHandle" ∧ (parseMethodDescriptor y_D_beginRebuilding.desc).map (fun d => d.parameters.length) = some 1 := by decide +kernel
abbrev b_D_advance : ByteArray := prog_2_method_16_code
def y_D_advance : MethodName := ⟨R_D, "advance", "(I)V"⟩
abbrev w_D_advance : List Cond := Cond.code y_D_advance b_D_advance 2 none :: lw_g
set_option maxRecDepth 100000 in
theorem m_code_D_advance : Cond.code y_D_advance b_D_advance 2 none ∈ lw_g := k_g (List.mem_of_getElem? (i := 364) rfl) rfl
theorem m_inst_D_advance : Cond.instanceMethod y_D_advance ∈ lw_g := k_g (List.mem_of_getElem? (i := 362) (by decide +kernel)) rfl
theorem m_sel_D_advance : Cond.selects R_D y_D_advance y_D_advance ∈ lw_g := k_g (List.mem_of_getElem? (i := 363) (by decide +kernel)) rfl
theorem h_D_advance : y_D_advance.cls ≠ "java/lang/invoke/MethodHandle" ∧ y_D_advance.cls ≠ "java/lang/invoke/VarHandle" ∧ (parseMethodDescriptor y_D_advance.desc).map (fun d => d.parameters.length) = some 1 := by decide +kernel
abbrev b_D_nextToRebuild : ByteArray := prog_2_method_17_code
def y_D_nextToRebuild : MethodName := ⟨R_D, "nextToRebuild", "()I"⟩
abbrev w_D_nextToRebuild : List Cond := Cond.code y_D_nextToRebuild b_D_nextToRebuild 4 (some .int) :: lw_g
set_option maxRecDepth 100000 in
theorem m_code_D_nextToRebuild : Cond.code y_D_nextToRebuild b_D_nextToRebuild 4 (some .int) ∈ lw_g := k_g (List.mem_of_getElem? (i := 351) rfl) rfl
theorem m_inst_D_nextToRebuild : Cond.instanceMethod y_D_nextToRebuild ∈ lw_g := k_g (List.mem_of_getElem? (i := 349) (by decide +kernel)) rfl
theorem m_sel_D_nextToRebuild : Cond.selects R_D y_D_nextToRebuild y_D_nextToRebuild ∈ lw_g := k_g (List.mem_of_getElem? (i := 350) (by decide +kernel)) rfl
theorem h_D_nextToRebuild : y_D_nextToRebuild.cls ≠ "java/lang/invoke/MethodHandle" ∧ y_D_nextToRebuild.cls ≠ "java/lang/invoke/VarHandle" ∧ (parseMethodDescriptor y_D_nextToRebuild.desc).map (fun d => d.parameters.length) = some 0 := by decide +kernel
abbrev b_D_wordAt : ByteArray := prog_2_method_18_code
def y_D_wordAt : MethodName := ⟨R_D, "wordAt", "(II)I"⟩
abbrev w_D_wordAt : List Cond := Cond.code y_D_wordAt b_D_wordAt 3 (some .int) :: lw_g
set_option maxRecDepth 100000 in
theorem m_code_D_wordAt : Cond.code y_D_wordAt b_D_wordAt 3 (some .int) ∈ lw_g := k_g (List.mem_of_getElem? (i := 184) rfl) rfl
theorem m_inst_D_wordAt : Cond.instanceMethod y_D_wordAt ∈ lw_g := k_g (List.mem_of_getElem? (i := 182) (by decide +kernel)) rfl
theorem m_sel_D_wordAt : Cond.selects R_D y_D_wordAt y_D_wordAt ∈ lw_g := k_g (List.mem_of_getElem? (i := 183) (by decide +kernel)) rfl
theorem h_D_wordAt : y_D_wordAt.cls ≠ "java/lang/invoke/MethodHandle" ∧ y_D_wordAt.cls ≠ "java/lang/invoke/VarHandle" ∧ (parseMethodDescriptor y_D_wordAt.desc).map (fun d => d.parameters.length) = some 2 := by decide +kernel
abbrev b_D_put : ByteArray := prog_2_method_19_code
def y_D_put : MethodName := ⟨R_D, "put", "(III)V"⟩
abbrev w_D_put : List Cond := Cond.code y_D_put b_D_put 4 none :: lw_g
set_option maxRecDepth 100000 in
theorem m_code_D_put : Cond.code y_D_put b_D_put 4 none ∈ lw_g := k_g (List.mem_of_getElem? (i := 314) rfl) rfl
theorem m_inst_D_put : Cond.instanceMethod y_D_put ∈ lw_g := k_g (List.mem_of_getElem? (i := 312) (by decide +kernel)) rfl
theorem m_sel_D_put : Cond.selects R_D y_D_put y_D_put ∈ lw_g := k_g (List.mem_of_getElem? (i := 313) (by decide +kernel)) rfl
theorem h_D_put : y_D_put.cls ≠ "java/lang/invoke/MethodHandle" ∧ y_D_put.cls ≠ "java/lang/invoke/VarHandle" ∧ (parseMethodDescriptor y_D_put.desc).map (fun d => d.parameters.length) = some 3 := by decide +kernel
abbrev b_L_init : ByteArray := prog_3_method_1_code
def y_L_init : MethodName := ⟨R_L, "<init>", "(I)V"⟩
abbrev w_L_init : List Cond := Cond.code y_L_init b_L_init 2 none :: lw_g
set_option maxRecDepth 100000 in
theorem m_code_L_init : Cond.code y_L_init b_L_init 2 none ∈ lw_g := k_g (List.mem_of_getElem? (i := 80) rfl) rfl
theorem m_inst_L_init : Cond.instanceMethod y_L_init ∈ lw_g := k_g (List.mem_of_getElem? (i := 79) (by decide +kernel)) rfl
theorem h_L_init : y_L_init.cls ≠ "java/lang/invoke/MethodHandle" ∧ y_L_init.cls ≠ "java/lang/invoke/VarHandle" ∧ (parseMethodDescriptor y_L_init.desc).map (fun d => d.parameters.length) = some 1 := by decide +kernel
abbrev b_L_holdsEntry : ByteArray := prog_3_method_2_code
def y_L_holdsEntry : MethodName := ⟨R_L, "holdsEntry", "()Z"⟩
abbrev w_L_holdsEntry : List Cond := Cond.code y_L_holdsEntry b_L_holdsEntry 1 (some .boolean) :: lw_g
set_option maxRecDepth 100000 in
theorem m_code_L_holdsEntry : Cond.code y_L_holdsEntry b_L_holdsEntry 1 (some .boolean) ∈ lw_g := k_g (List.mem_of_getElem? (i := 410) rfl) rfl
theorem m_inst_L_holdsEntry : Cond.instanceMethod y_L_holdsEntry ∈ lw_g := k_g (List.mem_of_getElem? (i := 408) (by decide +kernel)) rfl
theorem m_sel_L_holdsEntry : Cond.selects R_L y_L_holdsEntry y_L_holdsEntry ∈ lw_g := k_g (List.mem_of_getElem? (i := 409) (by decide +kernel)) rfl
theorem h_L_holdsEntry : y_L_holdsEntry.cls ≠ "java/lang/invoke/MethodHandle" ∧ y_L_holdsEntry.cls ≠ "java/lang/invoke/VarHandle" ∧ (parseMethodDescriptor y_L_holdsEntry.desc).map (fun d => d.parameters.length) = some 0 := by decide +kernel
abbrev b_L_sealedStripe : ByteArray := prog_3_method_3_code
def y_L_sealedStripe : MethodName := ⟨R_L, "sealedStripe", "()I"⟩
abbrev w_L_sealedStripe : List Cond := Cond.code y_L_sealedStripe b_L_sealedStripe 1 (some .int) :: lw_g
set_option maxRecDepth 100000 in
theorem m_code_L_sealedStripe : Cond.code y_L_sealedStripe b_L_sealedStripe 1 (some .int) ∈ lw_g := k_g (List.mem_of_getElem? (i := 298) rfl) rfl
theorem m_inst_L_sealedStripe : Cond.instanceMethod y_L_sealedStripe ∈ lw_g := k_g (List.mem_of_getElem? (i := 296) (by decide +kernel)) rfl
theorem m_sel_L_sealedStripe : Cond.selects R_L y_L_sealedStripe y_L_sealedStripe ∈ lw_g := k_g (List.mem_of_getElem? (i := 297) (by decide +kernel)) rfl
theorem h_L_sealedStripe : y_L_sealedStripe.cls ≠ "java/lang/invoke/MethodHandle" ∧ y_L_sealedStripe.cls ≠ "java/lang/invoke/VarHandle" ∧ (parseMethodDescriptor y_L_sealedStripe.desc).map (fun d => d.parameters.length) = some 0 := by decide +kernel
abbrev b_L_seal : ByteArray := prog_3_method_4_code
def y_L_seal : MethodName := ⟨R_L, "seal", "(IIILDualParityArray$Stripe;)V"⟩
abbrev w_L_seal : List Cond := Cond.code y_L_seal b_L_seal 6 none :: lw_g
set_option maxRecDepth 100000 in
theorem m_code_L_seal : Cond.code y_L_seal b_L_seal 6 none ∈ lw_g := k_g (List.mem_of_getElem? (i := 289) rfl) rfl
theorem m_inst_L_seal : Cond.instanceMethod y_L_seal ∈ lw_g := k_g (List.mem_of_getElem? (i := 287) (by decide +kernel)) rfl
theorem m_sel_L_seal : Cond.selects R_L y_L_seal y_L_seal ∈ lw_g := k_g (List.mem_of_getElem? (i := 288) (by decide +kernel)) rfl
theorem h_L_seal : y_L_seal.cls ≠ "java/lang/invoke/MethodHandle" ∧ y_L_seal.cls ≠ "java/lang/invoke/VarHandle" ∧ (parseMethodDescriptor y_L_seal.desc).map (fun d => d.parameters.length) = some 4 := by decide +kernel
abbrev b_L_bears : ByteArray := prog_3_method_5_code
def y_L_bears : MethodName := ⟨R_L, "bears", "(I)Z"⟩
abbrev w_L_bears : List Cond := Cond.code y_L_bears b_L_bears 3 (some .boolean) :: lw_g
set_option maxRecDepth 100000 in
theorem m_code_L_bears : Cond.code y_L_bears b_L_bears 3 (some .boolean) ∈ lw_g := k_g (List.mem_of_getElem? (i := 302) rfl) rfl
theorem m_inst_L_bears : Cond.instanceMethod y_L_bears ∈ lw_g := k_g (List.mem_of_getElem? (i := 300) (by decide +kernel)) rfl
theorem m_sel_L_bears : Cond.selects R_L y_L_bears y_L_bears ∈ lw_g := k_g (List.mem_of_getElem? (i := 301) (by decide +kernel)) rfl
theorem h_L_bears : y_L_bears.cls ≠ "java/lang/invoke/MethodHandle" ∧ y_L_bears.cls ≠ "java/lang/invoke/VarHandle" ∧ (parseMethodDescriptor y_L_bears.desc).map (fun d => d.parameters.length) = some 1 := by decide +kernel
abbrev b_L_wordOf : ByteArray := prog_3_method_6_code
def y_L_wordOf : MethodName := ⟨R_L, "wordOf", "(I)I"⟩
abbrev w_L_wordOf : List Cond := Cond.code y_L_wordOf b_L_wordOf 2 (some .int) :: lw_g
set_option maxRecDepth 100000 in
theorem m_code_L_wordOf : Cond.code y_L_wordOf b_L_wordOf 2 (some .int) ∈ lw_g := k_g (List.mem_of_getElem? (i := 306) rfl) rfl
theorem m_inst_L_wordOf : Cond.instanceMethod y_L_wordOf ∈ lw_g := k_g (List.mem_of_getElem? (i := 304) (by decide +kernel)) rfl
theorem m_sel_L_wordOf : Cond.selects R_L y_L_wordOf y_L_wordOf ∈ lw_g := k_g (List.mem_of_getElem? (i := 305) (by decide +kernel)) rfl
theorem h_L_wordOf : y_L_wordOf.cls ≠ "java/lang/invoke/MethodHandle" ∧ y_L_wordOf.cls ≠ "java/lang/invoke/VarHandle" ∧ (parseMethodDescriptor y_L_wordOf.desc).map (fun d => d.parameters.length) = some 1 := by decide +kernel
abbrev b_L_clear : ByteArray := prog_3_method_7_code
def y_L_clear : MethodName := ⟨R_L, "clear", "()V"⟩
abbrev w_L_clear : List Cond := Cond.code y_L_clear b_L_clear 1 none :: lw_g
set_option maxRecDepth 100000 in
theorem m_code_L_clear : Cond.code y_L_clear b_L_clear 1 none ∈ lw_g := k_g (List.mem_of_getElem? (i := 318) rfl) rfl
theorem m_inst_L_clear : Cond.instanceMethod y_L_clear ∈ lw_g := k_g (List.mem_of_getElem? (i := 316) (by decide +kernel)) rfl
theorem m_sel_L_clear : Cond.selects R_L y_L_clear y_L_clear ∈ lw_g := k_g (List.mem_of_getElem? (i := 317) (by decide +kernel)) rfl
theorem h_L_clear : y_L_clear.cls ≠ "java/lang/invoke/MethodHandle" ∧ y_L_clear.cls ≠ "java/lang/invoke/VarHandle" ∧ (parseMethodDescriptor y_L_clear.desc).map (fun d => d.parameters.length) = some 0 := by decide +kernel
abbrev b_S_init : ByteArray := prog_4_method_1_code
def y_S_init : MethodName := ⟨R_S, "<init>", "(I)V"⟩
abbrev w_S_init : List Cond := Cond.code y_S_init b_S_init 2 none :: lw_g
set_option maxRecDepth 100000 in
theorem m_code_S_init : Cond.code y_S_init b_S_init 2 none ∈ lw_g := k_g (List.mem_of_getElem? (i := 99) rfl) rfl
theorem m_inst_S_init : Cond.instanceMethod y_S_init ∈ lw_g := k_g (List.mem_of_getElem? (i := 98) (by decide +kernel)) rfl
theorem h_S_init : y_S_init.cls ≠ "java/lang/invoke/MethodHandle" ∧ y_S_init.cls ≠ "java/lang/invoke/VarHandle" ∧ (parseMethodDescriptor y_S_init.desc).map (fun d => d.parameters.length) = some 1 := by decide +kernel
abbrev b_S_valueOf : ByteArray := prog_4_method_2_code
def y_S_valueOf : MethodName := ⟨R_S, "valueOf", "(I)I"⟩
abbrev w_S_valueOf : List Cond := Cond.code y_S_valueOf b_S_valueOf 2 (some .int) :: lw_g
set_option maxRecDepth 100000 in
theorem m_code_S_valueOf : Cond.code y_S_valueOf b_S_valueOf 2 (some .int) ∈ lw_g := k_g (List.mem_of_getElem? (i := 245) rfl) rfl
theorem m_inst_S_valueOf : Cond.instanceMethod y_S_valueOf ∈ lw_g := k_g (List.mem_of_getElem? (i := 243) (by decide +kernel)) rfl
theorem m_sel_S_valueOf : Cond.selects R_S y_S_valueOf y_S_valueOf ∈ lw_g := k_g (List.mem_of_getElem? (i := 244) (by decide +kernel)) rfl
theorem h_S_valueOf : y_S_valueOf.cls ≠ "java/lang/invoke/MethodHandle" ∧ y_S_valueOf.cls ≠ "java/lang/invoke/VarHandle" ∧ (parseMethodDescriptor y_S_valueOf.desc).map (fun d => d.parameters.length) = some 1 := by decide +kernel
abbrev b_S_load : ByteArray := prog_4_method_3_code
def y_S_load : MethodName := ⟨R_S, "load", "(LDualParityArray$Disks;I)V"⟩
abbrev w_S_load : List Cond := Cond.code y_S_load b_S_load 8 none :: lw_g
set_option maxRecDepth 100000 in
theorem m_code_S_load : Cond.code y_S_load b_S_load 8 none ∈ lw_g := k_g (List.mem_of_getElem? (i := 196) rfl) rfl
theorem m_inst_S_load : Cond.instanceMethod y_S_load ∈ lw_g := k_g (List.mem_of_getElem? (i := 194) (by decide +kernel)) rfl
theorem m_sel_S_load : Cond.selects R_S y_S_load y_S_load ∈ lw_g := k_g (List.mem_of_getElem? (i := 195) (by decide +kernel)) rfl
theorem h_S_load : y_S_load.cls ≠ "java/lang/invoke/MethodHandle" ∧ y_S_load.cls ≠ "java/lang/invoke/VarHandle" ∧ (parseMethodDescriptor y_S_load.desc).map (fun d => d.parameters.length) = some 2 := by decide +kernel
abbrev b_S_restoreColumns : ByteArray := prog_4_method_4_code
def y_S_restoreColumns : MethodName := ⟨R_S, "restoreColumns", "(II)V"⟩
abbrev w_S_restoreColumns : List Cond := Cond.code y_S_restoreColumns b_S_restoreColumns 6 none :: lw_g
set_option maxRecDepth 100000 in
theorem m_code_S_restoreColumns : Cond.code y_S_restoreColumns b_S_restoreColumns 6 none ∈ lw_g := k_g (List.mem_of_getElem? (i := 203) rfl) rfl
theorem m_inst_S_restoreColumns : Cond.instanceMethod y_S_restoreColumns ∈ lw_g := k_g (List.mem_of_getElem? (i := 202) (by decide +kernel)) rfl
theorem m_sel_S_restoreColumns : Cond.selects R_S y_S_restoreColumns y_S_restoreColumns ∈ lw_g := k_g (List.mem_of_getElem? (i := 5) (by decide +kernel)) rfl
theorem h_S_restoreColumns : y_S_restoreColumns.cls ≠ "java/lang/invoke/MethodHandle" ∧ y_S_restoreColumns.cls ≠ "java/lang/invoke/VarHandle" ∧ (parseMethodDescriptor y_S_restoreColumns.desc).map (fun d => d.parameters.length) = some 2 := by decide +kernel
abbrev b_S_firstGap : ByteArray := prog_4_method_5_code
def y_S_firstGap : MethodName := ⟨R_S, "firstGap", "()I"⟩
abbrev w_S_firstGap : List Cond := Cond.code y_S_firstGap b_S_firstGap 3 (some .int) :: lw_g
set_option maxRecDepth 100000 in
theorem m_code_S_firstGap : Cond.code y_S_firstGap b_S_firstGap 3 (some .int) ∈ lw_g := k_g (List.mem_of_getElem? (i := 207) rfl) rfl
theorem m_inst_S_firstGap : Cond.instanceMethod y_S_firstGap ∈ lw_g := k_g (List.mem_of_getElem? (i := 206) (by decide +kernel)) rfl
theorem m_sel_S_firstGap : Cond.selects R_S y_S_firstGap y_S_firstGap ∈ lw_g := k_g (List.mem_of_getElem? (i := 6) (by decide +kernel)) rfl
theorem h_S_firstGap : y_S_firstGap.cls ≠ "java/lang/invoke/MethodHandle" ∧ y_S_firstGap.cls ≠ "java/lang/invoke/VarHandle" ∧ (parseMethodDescriptor y_S_firstGap.desc).map (fun d => d.parameters.length) = some 0 := by decide +kernel
abbrev b_S_secondGap : ByteArray := prog_4_method_6_code
def y_S_secondGap : MethodName := ⟨R_S, "secondGap", "()I"⟩
abbrev w_S_secondGap : List Cond := Cond.code y_S_secondGap b_S_secondGap 3 (some .int) :: lw_g
set_option maxRecDepth 100000 in
theorem m_code_S_secondGap : Cond.code y_S_secondGap b_S_secondGap 3 (some .int) ∈ lw_g := k_g (List.mem_of_getElem? (i := 211) rfl) rfl
theorem m_inst_S_secondGap : Cond.instanceMethod y_S_secondGap ∈ lw_g := k_g (List.mem_of_getElem? (i := 210) (by decide +kernel)) rfl
theorem m_sel_S_secondGap : Cond.selects R_S y_S_secondGap y_S_secondGap ∈ lw_g := k_g (List.mem_of_getElem? (i := 7) (by decide +kernel)) rfl
theorem h_S_secondGap : y_S_secondGap.cls ≠ "java/lang/invoke/MethodHandle" ∧ y_S_secondGap.cls ≠ "java/lang/invoke/VarHandle" ∧ (parseMethodDescriptor y_S_secondGap.desc).map (fun d => d.parameters.length) = some 0 := by decide +kernel
abbrev b_S_meetFirstEquation : ByteArray := prog_4_method_7_code
def y_S_meetFirstEquation : MethodName := ⟨R_S, "meetFirstEquation", "()V"⟩
abbrev w_S_meetFirstEquation : List Cond := Cond.code y_S_meetFirstEquation b_S_meetFirstEquation 1 none :: lw_g
set_option maxRecDepth 100000 in
theorem m_code_S_meetFirstEquation : Cond.code y_S_meetFirstEquation b_S_meetFirstEquation 1 none ∈ lw_g := k_g (List.mem_of_getElem? (i := 232) rfl) rfl
theorem m_inst_S_meetFirstEquation : Cond.instanceMethod y_S_meetFirstEquation ∈ lw_g := k_g (List.mem_of_getElem? (i := 231) (by decide +kernel)) rfl
theorem m_sel_S_meetFirstEquation : Cond.selects R_S y_S_meetFirstEquation y_S_meetFirstEquation ∈ lw_g := k_g (List.mem_of_getElem? (i := 8) (by decide +kernel)) rfl
theorem h_S_meetFirstEquation : y_S_meetFirstEquation.cls ≠ "java/lang/invoke/MethodHandle" ∧ y_S_meetFirstEquation.cls ≠ "java/lang/invoke/VarHandle" ∧ (parseMethodDescriptor y_S_meetFirstEquation.desc).map (fun d => d.parameters.length) = some 0 := by decide +kernel
abbrev b_S_meetSecondEquation : ByteArray := prog_4_method_8_code
def y_S_meetSecondEquation : MethodName := ⟨R_S, "meetSecondEquation", "()V"⟩
abbrev w_S_meetSecondEquation : List Cond := Cond.code y_S_meetSecondEquation b_S_meetSecondEquation 1 none :: lw_g
set_option maxRecDepth 100000 in
theorem m_code_S_meetSecondEquation : Cond.code y_S_meetSecondEquation b_S_meetSecondEquation 1 none ∈ lw_g := k_g (List.mem_of_getElem? (i := 236) rfl) rfl
theorem m_inst_S_meetSecondEquation : Cond.instanceMethod y_S_meetSecondEquation ∈ lw_g := k_g (List.mem_of_getElem? (i := 235) (by decide +kernel)) rfl
theorem m_sel_S_meetSecondEquation : Cond.selects R_S y_S_meetSecondEquation y_S_meetSecondEquation ∈ lw_g := k_g (List.mem_of_getElem? (i := 9) (by decide +kernel)) rfl
theorem h_S_meetSecondEquation : y_S_meetSecondEquation.cls ≠ "java/lang/invoke/MethodHandle" ∧ y_S_meetSecondEquation.cls ≠ "java/lang/invoke/VarHandle" ∧ (parseMethodDescriptor y_S_meetSecondEquation.desc).map (fun d => d.parameters.length) = some 0 := by decide +kernel
abbrev b_S_meetsBothEquations : ByteArray := prog_4_method_9_code
def y_S_meetsBothEquations : MethodName := ⟨R_S, "meetsBothEquations", "()Z"⟩
abbrev w_S_meetsBothEquations : List Cond := Cond.code y_S_meetsBothEquations b_S_meetsBothEquations 1 (some .boolean) :: lw_g
set_option maxRecDepth 100000 in
theorem m_code_S_meetsBothEquations : Cond.code y_S_meetsBothEquations b_S_meetsBothEquations 1 (some .boolean) ∈ lw_g := k_g (List.mem_of_getElem? (i := 376) rfl) rfl
theorem m_inst_S_meetsBothEquations : Cond.instanceMethod y_S_meetsBothEquations ∈ lw_g := k_g (List.mem_of_getElem? (i := 374) (by decide +kernel)) rfl
theorem m_sel_S_meetsBothEquations : Cond.selects R_S y_S_meetsBothEquations y_S_meetsBothEquations ∈ lw_g := k_g (List.mem_of_getElem? (i := 375) (by decide +kernel)) rfl
theorem h_S_meetsBothEquations : y_S_meetsBothEquations.cls ≠ "java/lang/invoke/MethodHandle" ∧ y_S_meetsBothEquations.cls ≠ "java/lang/invoke/VarHandle" ∧ (parseMethodDescriptor y_S_meetsBothEquations.desc).map (fun d => d.parameters.length) = some 0 := by decide +kernel
abbrev b_S_slotAtFault : ByteArray := prog_4_method_10_code
def y_S_slotAtFault : MethodName := ⟨R_S, "slotAtFault", "()I"⟩
abbrev w_S_slotAtFault : List Cond := Cond.code y_S_slotAtFault b_S_slotAtFault 4 (some .int) :: lw_g
set_option maxRecDepth 100000 in
theorem m_code_S_slotAtFault : Cond.code y_S_slotAtFault b_S_slotAtFault 4 (some .int) ∈ lw_g := k_g (List.mem_of_getElem? (i := 380) rfl) rfl
theorem m_inst_S_slotAtFault : Cond.instanceMethod y_S_slotAtFault ∈ lw_g := k_g (List.mem_of_getElem? (i := 378) (by decide +kernel)) rfl
theorem m_sel_S_slotAtFault : Cond.selects R_S y_S_slotAtFault y_S_slotAtFault ∈ lw_g := k_g (List.mem_of_getElem? (i := 379) (by decide +kernel)) rfl
theorem h_S_slotAtFault : y_S_slotAtFault.cls ≠ "java/lang/invoke/MethodHandle" ∧ y_S_slotAtFault.cls ≠ "java/lang/invoke/VarHandle" ∧ (parseMethodDescriptor y_S_slotAtFault.desc).map (fun d => d.parameters.length) = some 0 := by decide +kernel
abbrev b_S_mendedWord : ByteArray := prog_4_method_11_code
def y_S_mendedWord : MethodName := ⟨R_S, "mendedWord", "(I)I"⟩
abbrev w_S_mendedWord : List Cond := Cond.code y_S_mendedWord b_S_mendedWord 2 (some .int) :: lw_g
set_option maxRecDepth 100000 in
theorem m_code_S_mendedWord : Cond.code y_S_mendedWord b_S_mendedWord 2 (some .int) ∈ lw_g := k_g (List.mem_of_getElem? (i := 384) rfl) rfl
theorem m_inst_S_mendedWord : Cond.instanceMethod y_S_mendedWord ∈ lw_g := k_g (List.mem_of_getElem? (i := 382) (by decide +kernel)) rfl
theorem m_sel_S_mendedWord : Cond.selects R_S y_S_mendedWord y_S_mendedWord ∈ lw_g := k_g (List.mem_of_getElem? (i := 383) (by decide +kernel)) rfl
theorem h_S_mendedWord : y_S_mendedWord.cls ≠ "java/lang/invoke/MethodHandle" ∧ y_S_mendedWord.cls ≠ "java/lang/invoke/VarHandle" ∧ (parseMethodDescriptor y_S_mendedWord.desc).map (fun d => d.parameters.length) = some 1 := by decide +kernel
abbrev b_S_setColumns : ByteArray := prog_4_method_12_code
def y_S_setColumns : MethodName := ⟨R_S, "setColumns", "(III)V"⟩
abbrev w_S_setColumns : List Cond := Cond.code y_S_setColumns b_S_setColumns 5 none :: lw_g
set_option maxRecDepth 100000 in
theorem m_code_S_setColumns : Cond.code y_S_setColumns b_S_setColumns 5 none ∈ lw_g := k_g (List.mem_of_getElem? (i := 266) rfl) rfl
theorem m_inst_S_setColumns : Cond.instanceMethod y_S_setColumns ∈ lw_g := k_g (List.mem_of_getElem? (i := 264) (by decide +kernel)) rfl
theorem m_sel_S_setColumns : Cond.selects R_S y_S_setColumns y_S_setColumns ∈ lw_g := k_g (List.mem_of_getElem? (i := 265) (by decide +kernel)) rfl
theorem h_S_setColumns : y_S_setColumns.cls ≠ "java/lang/invoke/MethodHandle" ∧ y_S_setColumns.cls ≠ "java/lang/invoke/VarHandle" ∧ (parseMethodDescriptor y_S_setColumns.desc).map (fun d => d.parameters.length) = some 3 := by decide +kernel
abbrev b_S_changeColumns : ByteArray := prog_4_method_13_code
def y_S_changeColumns : MethodName := ⟨R_S, "changeColumns", "(III)V"⟩
abbrev w_S_changeColumns : List Cond := Cond.code y_S_changeColumns b_S_changeColumns 7 none :: lw_g
set_option maxRecDepth 100000 in
theorem m_code_S_changeColumns : Cond.code y_S_changeColumns b_S_changeColumns 7 none ∈ lw_g := k_g (List.mem_of_getElem? (i := 270) rfl) rfl
theorem m_inst_S_changeColumns : Cond.instanceMethod y_S_changeColumns ∈ lw_g := k_g (List.mem_of_getElem? (i := 268) (by decide +kernel)) rfl
theorem m_sel_S_changeColumns : Cond.selects R_S y_S_changeColumns y_S_changeColumns ∈ lw_g := k_g (List.mem_of_getElem? (i := 269) (by decide +kernel)) rfl
theorem h_S_changeColumns : y_S_changeColumns.cls ≠ "java/lang/invoke/MethodHandle" ∧ y_S_changeColumns.cls ≠ "java/lang/invoke/VarHandle" ∧ (parseMethodDescriptor y_S_changeColumns.desc).map (fun d => d.parameters.length) = some 3 := by decide +kernel
abbrev b_W_doubled : ByteArray := prog_5_method_2_code
def y_W_doubled : MethodName := ⟨R_W, "doubled", "(I)I"⟩
abbrev w_W_doubled : List Cond := Cond.code y_W_doubled b_W_doubled 1 (some .int) :: lw_g
set_option maxRecDepth 100000 in
theorem m_code_W_doubled : Cond.code y_W_doubled b_W_doubled 1 (some .int) ∈ lw_g := k_g (List.mem_of_getElem? (i := 214) rfl) rfl
theorem m_stat_W_doubled : Cond.static y_W_doubled ∈ lw_g := k_g (List.mem_of_getElem? (i := 213) (by decide +kernel)) rfl
theorem h_W_doubled : y_W_doubled.cls ≠ "java/lang/invoke/MethodHandle" ∧ y_W_doubled.cls ≠ "java/lang/invoke/VarHandle" ∧ (parseMethodDescriptor y_W_doubled.desc).map (fun d => d.parameters.length) = some 1 := by decide +kernel
abbrev b_W_halved : ByteArray := prog_5_method_3_code
def y_W_halved : MethodName := ⟨R_W, "halved", "(I)I"⟩
abbrev w_W_halved : List Cond := Cond.code y_W_halved b_W_halved 1 (some .int) :: lw_g
set_option maxRecDepth 100000 in
theorem m_code_W_halved : Cond.code y_W_halved b_W_halved 1 (some .int) ∈ lw_g := k_g (List.mem_of_getElem? (i := 222) rfl) rfl
theorem m_stat_W_halved : Cond.static y_W_halved ∈ lw_g := k_g (List.mem_of_getElem? (i := 221) (by decide +kernel)) rfl
theorem h_W_halved : y_W_halved.cls ≠ "java/lang/invoke/MethodHandle" ∧ y_W_halved.cls ≠ "java/lang/invoke/VarHandle" ∧ (parseMethodDescriptor y_W_halved.desc).map (fun d => d.parameters.length) = some 1 := by decide +kernel
abbrev b_W_timesPower : ByteArray := prog_5_method_4_code
def y_W_timesPower : MethodName := ⟨R_W, "timesPower", "(II)I"⟩
abbrev w_W_timesPower : List Cond := Cond.code y_W_timesPower b_W_timesPower 4 (some .int) :: lw_g
set_option maxRecDepth 100000 in
theorem m_code_W_timesPower : Cond.code y_W_timesPower b_W_timesPower 4 (some .int) ∈ lw_g := k_g (List.mem_of_getElem? (i := 273) rfl) rfl
theorem m_stat_W_timesPower : Cond.static y_W_timesPower ∈ lw_g := k_g (List.mem_of_getElem? (i := 272) (by decide +kernel)) rfl
theorem h_W_timesPower : y_W_timesPower.cls ≠ "java/lang/invoke/MethodHandle" ∧ y_W_timesPower.cls ≠ "java/lang/invoke/VarHandle" ∧ (parseMethodDescriptor y_W_timesPower.desc).map (fun d => d.parameters.length) = some 2 := by decide +kernel
abbrev b_W_dividedByPower : ByteArray := prog_5_method_5_code
def y_W_dividedByPower : MethodName := ⟨R_W, "dividedByPower", "(II)I"⟩
abbrev w_W_dividedByPower : List Cond := Cond.code y_W_dividedByPower b_W_dividedByPower 4 (some .int) :: lw_g
set_option maxRecDepth 100000 in
theorem m_code_W_dividedByPower : Cond.code y_W_dividedByPower b_W_dividedByPower 4 (some .int) ∈ lw_g := k_g (List.mem_of_getElem? (i := 219) rfl) rfl
theorem m_stat_W_dividedByPower : Cond.static y_W_dividedByPower ∈ lw_g := k_g (List.mem_of_getElem? (i := 218) (by decide +kernel)) rfl
theorem h_W_dividedByPower : y_W_dividedByPower.cls ≠ "java/lang/invoke/MethodHandle" ∧ y_W_dividedByPower.cls ≠ "java/lang/invoke/VarHandle" ∧ (parseMethodDescriptor y_W_dividedByPower.desc).map (fun d => d.parameters.length) = some 2 := by decide +kernel
abbrev b_W_dividedBy1PlusPower : ByteArray := prog_5_method_6_code
def y_W_dividedBy1PlusPower : MethodName := ⟨R_W, "dividedBy1PlusPower", "(II)I"⟩
abbrev w_W_dividedBy1PlusPower : List Cond := Cond.code y_W_dividedBy1PlusPower b_W_dividedBy1PlusPower 6 (some .int) :: lw_g
set_option maxRecDepth 100000 in
theorem m_code_W_dividedBy1PlusPower : Cond.code y_W_dividedBy1PlusPower b_W_dividedBy1PlusPower 6 (some .int) ∈ lw_g := k_g (List.mem_of_getElem? (i := 225) rfl) rfl
theorem m_stat_W_dividedBy1PlusPower : Cond.static y_W_dividedBy1PlusPower ∈ lw_g := k_g (List.mem_of_getElem? (i := 224) (by decide +kernel)) rfl
theorem h_W_dividedBy1PlusPower : y_W_dividedBy1PlusPower.cls ≠ "java/lang/invoke/MethodHandle" ∧ y_W_dividedBy1PlusPower.cls ≠ "java/lang/invoke/VarHandle" ∧ (parseMethodDescriptor y_W_dividedBy1PlusPower.desc).map (fun d => d.parameters.length) = some 2 := by decide +kernel
abbrev b_Z_cell : ByteArray := method_2_code
def y_Z_cell : MethodName := ⟨R_Z, "cell", "([II)I"⟩
abbrev w_Z_cell : List Cond := Cond.code y_Z_cell b_Z_cell 2 (some .int) :: lw_g
set_option maxRecDepth 100000 in
theorem m_code_Z_cell : Cond.code y_Z_cell b_Z_cell 2 (some .int) ∈ lw_g := k_g (List.mem_of_getElem? (i := 449) rfl) rfl
theorem m_stat_Z_cell : Cond.static y_Z_cell ∈ lw_g := k_g (List.mem_of_getElem? (i := 448) (by decide +kernel)) rfl
theorem h_Z_cell : y_Z_cell.cls ≠ "java/lang/invoke/MethodHandle" ∧ y_Z_cell.cls ≠ "java/lang/invoke/VarHandle" ∧ (parseMethodDescriptor y_Z_cell.desc).map (fun d => d.parameters.length) = some 2 := by decide +kernel
abbrev b_Z_law : ByteArray := code
def y_Z_law : MethodName := ⟨R_Z, "law", "([I)Z"⟩
theorem m_ini_A : Cond.initialized R_A ∈ lw_g := k_g (List.mem_of_getElem? (i := 32) (by decide +kernel)) rfl
theorem m_new_A : Cond.instantiable R_A 11 ∈ lw_g := k_g (List.mem_of_getElem? (i := 40) (by decide +kernel)) rfl
theorem m_ini_D : Cond.initialized R_D ∈ lw_g := k_g (List.mem_of_getElem? (i := 34) (by decide +kernel)) rfl
theorem m_new_D : Cond.instantiable R_D 4 ∈ lw_g := k_g (List.mem_of_getElem? (i := 57) (by decide +kernel)) rfl
theorem m_ini_L : Cond.initialized R_L ∈ lw_g := k_g (List.mem_of_getElem? (i := 35) (by decide +kernel)) rfl
theorem m_new_L : Cond.instantiable R_L 4 ∈ lw_g := k_g (List.mem_of_getElem? (i := 77) (by decide +kernel)) rfl
theorem m_ini_S : Cond.initialized R_S ∈ lw_g := k_g (List.mem_of_getElem? (i := 36) (by decide +kernel)) rfl
theorem m_new_S : Cond.instantiable R_S 4 ∈ lw_g := k_g (List.mem_of_getElem? (i := 96) (by decide +kernel)) rfl
theorem m_ini_W : Cond.initialized R_W ∈ lw_g := k_g (List.mem_of_getElem? (i := 38) (by decide +kernel)) rfl
theorem m_ini_M : Cond.initialized R_M ∈ lw_g := k_g (List.mem_of_getElem? (i := 37) (by decide +kernel)) rfl
theorem m_new_M : Cond.instantiable R_M 16 ∈ lw_g := k_g (List.mem_of_getElem? (i := 451) (by decide +kernel)) rfl
theorem m_ini_Z : Cond.initialized R_Z ∈ lw_g := k_g (List.mem_of_getElem? (i := 31) (by decide +kernel)) rfl
theorem m_k_A_20 : Cond.classLink R_A 20 R_D ∈ lw_g := k_g (List.mem_of_getElem? (i := 56) (by decide +kernel)) rfl
theorem m_k_A_29 : Cond.classLink R_A 29 R_L ∈ lw_g := k_g (List.mem_of_getElem? (i := 76) (by decide +kernel)) rfl
theorem m_k_A_38 : Cond.classLink R_A 38 R_S ∈ lw_g := k_g (List.mem_of_getElem? (i := 95) (by decide +kernel)) rfl
theorem m_k_Z_18 : Cond.classLink R_Z 18 R_M ∈ lw_g := k_g (List.mem_of_getElem? (i := 450) (by decide +kernel)) rfl
theorem m_k_Z_7 : Cond.classLink R_Z 7 R_A ∈ lw_g := k_g (List.mem_of_getElem? (i := 39) (by decide +kernel)) rfl
theorem m_c_W_10 : Cond.constant R_W 10 (16843009) ∈ lw_g := k_g (List.mem_of_getElem? (i := 216) (by decide +kernel)) rfl
theorem m_c_W_9 : Cond.constant R_W 9 (2139062143) ∈ lw_g := k_g (List.mem_of_getElem? (i := 215) (by decide +kernel)) rfl
theorem m_c_A_187 : Cond.constantLong R_A 187 (4294967295) ∈ lw_g := k_g (List.mem_of_getElem? (i := 188) (by decide +kernel)) rfl
theorem m_c_A_55 : Cond.constantLong R_A 55 (-1) ∈ lw_g := k_g (List.mem_of_getElem? (i := 160) (by decide +kernel)) rfl
theorem m_c_M_100 : Cond.constantLong R_M 100 (-1) ∈ lw_g := k_g (List.mem_of_getElem? (i := 513) (by decide +kernel)) rfl
theorem m_c_M_105 : Cond.constantLong R_M 105 (-2) ∈ lw_g := k_g (List.mem_of_getElem? (i := 518) (by decide +kernel)) rfl
theorem m_c_M_107 : Cond.constantLong R_M 107 (-3) ∈ lw_g := k_g (List.mem_of_getElem? (i := 519) (by decide +kernel)) rfl
theorem m_c_M_120 : Cond.constantLong R_M 120 (4294967295) ∈ lw_g := k_g (List.mem_of_getElem? (i := 560) (by decide +kernel)) rfl
theorem m_f_D_15 : Cond.fieldLink R_D 15 "DualParityArray$Disks" "stripes" "I" ∈ lw_g := k_g (List.mem_of_getElem? (i := 63) (by decide +kernel)) rfl
theorem m_f_D_18 : Cond.fieldLink R_D 18 "DualParityArray$Disks" "words" "[I" ∈ lw_g := k_g (List.mem_of_getElem? (i := 64) (by decide +kernel)) rfl
theorem m_f_D_22 : Cond.fieldLink R_D 22 "DualParityArray$Disks" "positions" "[I" ∈ lw_g := k_g (List.mem_of_getElem? (i := 65) (by decide +kernel)) rfl
theorem m_f_D_9 : Cond.fieldLink R_D 9 "DualParityArray$Disks" "count" "I" ∈ lw_g := k_g (List.mem_of_getElem? (i := 62) (by decide +kernel)) rfl
theorem m_f_L_15 : Cond.fieldLink R_L 15 "DualParityArray$Log" "stripe" "I" ∈ lw_g := k_g (List.mem_of_getElem? (i := 83) (by decide +kernel)) rfl
theorem m_f_L_19 : Cond.fieldLink R_L 19 "DualParityArray$Log" "firstColumn" "I" ∈ lw_g := k_g (List.mem_of_getElem? (i := 84) (by decide +kernel)) rfl
theorem m_f_L_22 : Cond.fieldLink R_L 22 "DualParityArray$Log" "columnCount" "I" ∈ lw_g := k_g (List.mem_of_getElem? (i := 85) (by decide +kernel)) rfl
theorem m_f_L_9 : Cond.fieldLink R_L 9 "DualParityArray$Log" "words" "[I" ∈ lw_g := k_g (List.mem_of_getElem? (i := 82) (by decide +kernel)) rfl
theorem m_f_S_15 : Cond.fieldLink R_S 15 "DualParityArray$Stripe" "slotP" "I" ∈ lw_g := k_g (List.mem_of_getElem? (i := 102) (by decide +kernel)) rfl
theorem m_f_S_18 : Cond.fieldLink R_S 18 "DualParityArray$Stripe" "slotQ" "I" ∈ lw_g := k_g (List.mem_of_getElem? (i := 103) (by decide +kernel)) rfl
theorem m_f_S_21 : Cond.fieldLink R_S 21 "DualParityArray$Stripe" "values" "[I" ∈ lw_g := k_g (List.mem_of_getElem? (i := 104) (by decide +kernel)) rfl
theorem m_f_S_9 : Cond.fieldLink R_S 9 "DualParityArray$Stripe" "columns" "I" ∈ lw_g := k_g (List.mem_of_getElem? (i := 101) (by decide +kernel)) rfl
theorem m_f_W_18 : Cond.fieldLink R_W 18 "DualParityArray$Words" "INVERSES_OF_1_PLUS_POWER" "[I" ∈ lw_g := k_g (List.mem_of_getElem? (i := 226) (by decide +kernel)) rfl
theorem m_f_A_13 : Cond.fieldLink R_A 13 "DualParityArray" "stripeCount" "I" ∈ lw_g := k_g (List.mem_of_getElem? (i := 114) (by decide +kernel)) rfl
theorem m_f_A_161 : Cond.fieldLink R_A 161 "DualParityArray" "down" "Z" ∈ lw_g := k_g (List.mem_of_getElem? (i := 120) (by decide +kernel)) rfl
theorem m_f_A_17 : Cond.fieldLink R_A 17 "DualParityArray" "columnCount" "I" ∈ lw_g := k_g (List.mem_of_getElem? (i := 115) (by decide +kernel)) rfl
theorem m_f_A_184 : Cond.fieldLink R_A 184 "DualParityArray" "writeCount" "I" ∈ lw_g := k_g (List.mem_of_getElem? (i := 124) (by decide +kernel)) rfl
theorem m_f_A_25 : Cond.fieldLink R_A 25 "DualParityArray" "disks" "LDualParityArray$Disks;" ∈ lw_g := k_g (List.mem_of_getElem? (i := 116) (by decide +kernel)) rfl
theorem m_f_A_34 : Cond.fieldLink R_A 34 "DualParityArray" "log" "LDualParityArray$Log;" ∈ lw_g := k_g (List.mem_of_getElem? (i := 117) (by decide +kernel)) rfl
theorem m_f_A_41 : Cond.fieldLink R_A 41 "DualParityArray" "stripe" "LDualParityArray$Stripe;" ∈ lw_g := k_g (List.mem_of_getElem? (i := 118) (by decide +kernel)) rfl
theorem m_f_A_45 : Cond.fieldLink R_A 45 "DualParityArray" "sparesLeft" "I" ∈ lw_g := k_g (List.mem_of_getElem? (i := 119) (by decide +kernel)) rfl
theorem m_f_A_48 : Cond.fieldLink R_A 48 "DualParityArray" "actsUntilStop" "I" ∈ lw_g := k_g (List.mem_of_getElem? (i := 121) (by decide +kernel)) rfl
theorem m_f_A_69 : Cond.fieldLink R_A 69 "DualParityArray" "readCount" "I" ∈ lw_g := k_g (List.mem_of_getElem? (i := 123) (by decide +kernel)) rfl
theorem m_f_A_92 : Cond.fieldLink R_A 92 "DualParityArray" "actsMade" "I" ∈ lw_g := k_g (List.mem_of_getElem? (i := 122) (by decide +kernel)) rfl
theorem m_f_M_109 : Cond.fieldLink R_M 109 "DualParityArrayModel" "readCount" "I" ∈ lw_g := k_g (List.mem_of_getElem? (i := 463) (by decide +kernel)) rfl
theorem m_f_M_13 : Cond.fieldLink R_M 13 "DualParityArrayModel" "upTo" "[I" ∈ lw_g := k_g (List.mem_of_getElem? (i := 466) (by decide +kernel)) rfl
theorem m_f_M_16 : Cond.fieldLink R_M 16 "DualParityArrayModel" "value" "[I" ∈ lw_g := k_g (List.mem_of_getElem? (i := 467) (by decide +kernel)) rfl
theorem m_f_M_19 : Cond.fieldLink R_M 19 "DualParityArrayModel" "entry" "[I" ∈ lw_g := k_g (List.mem_of_getElem? (i := 468) (by decide +kernel)) rfl
theorem m_f_M_22 : Cond.fieldLink R_M 22 "DualParityArrayModel" "sealed" "I" ∈ lw_g := k_g (List.mem_of_getElem? (i := 469) (by decide +kernel)) rfl
theorem m_f_M_26 : Cond.fieldLink R_M 26 "DualParityArrayModel" "n" "I" ∈ lw_g := k_g (List.mem_of_getElem? (i := 456) (by decide +kernel)) rfl
theorem m_f_M_29 : Cond.fieldLink R_M 29 "DualParityArrayModel" "stripes" "I" ∈ lw_g := k_g (List.mem_of_getElem? (i := 457) (by decide +kernel)) rfl
theorem m_f_M_32 : Cond.fieldLink R_M 32 "DualParityArrayModel" "left" "I" ∈ lw_g := k_g (List.mem_of_getElem? (i := 458) (by decide +kernel)) rfl
theorem m_f_M_66 : Cond.fieldLink R_M 66 "DualParityArrayModel" "armed" "Z" ∈ lw_g := k_g (List.mem_of_getElem? (i := 460) (by decide +kernel)) rfl
theorem m_f_M_7 : Cond.fieldLink R_M 7 "DualParityArrayModel" "word" "[I" ∈ lw_g := k_g (List.mem_of_getElem? (i := 465) (by decide +kernel)) rfl
theorem m_f_M_70 : Cond.fieldLink R_M 70 "DualParityArrayModel" "until" "I" ∈ lw_g := k_g (List.mem_of_getElem? (i := 461) (by decide +kernel)) rfl
theorem m_f_M_73 : Cond.fieldLink R_M 73 "DualParityArrayModel" "down" "Z" ∈ lw_g := k_g (List.mem_of_getElem? (i := 459) (by decide +kernel)) rfl
theorem m_f_M_76 : Cond.fieldLink R_M 76 "DualParityArrayModel" "made" "I" ∈ lw_g := k_g (List.mem_of_getElem? (i := 462) (by decide +kernel)) rfl
theorem m_f_M_83 : Cond.fieldLink R_M 83 "DualParityArrayModel" "writeCount" "I" ∈ lw_g := k_g (List.mem_of_getElem? (i := 464) (by decide +kernel)) rfl
theorem m_f_M_86 : Cond.fieldLink R_M 86 "DualParityArrayModel" "entryFirst" "I" ∈ lw_g := k_g (List.mem_of_getElem? (i := 470) (by decide +kernel)) rfl
theorem m_f_M_89 : Cond.fieldLink R_M 89 "DualParityArrayModel" "entryEnd" "I" ∈ lw_g := k_g (List.mem_of_getElem? (i := 471) (by decide +kernel)) rfl
theorem m_l_D_25 : Cond.methodLink R_D 25 y_D_hasDisk ∈ lw_g := k_g (List.mem_of_getElem? (i := 393) (by decide +kernel)) rfl
theorem m_l_D_29 : Cond.methodLink R_D 29 y_D_hasStripe ∈ lw_g := k_g (List.mem_of_getElem? (i := 394) (by decide +kernel)) rfl
theorem m_l_D_32 : Cond.methodLink R_D 32 y_D_diskOfP ∈ lw_g := k_g (List.mem_of_getElem? (i := 173) (by decide +kernel)) rfl
theorem m_l_D_36 : Cond.methodLink R_D 36 y_D_available ∈ lw_g := k_g (List.mem_of_getElem? (i := 241) (by decide +kernel)) rfl
theorem m_l_D_40 : Cond.methodLink R_D 40 y_D_countAvailable ∈ lw_g := k_g (List.mem_of_getElem? (i := 262) (by decide +kernel)) rfl
theorem m_l_D_43 : Cond.methodLink R_D 43 y_D_missing ∈ lw_g := k_g (List.mem_of_getElem? (i := 352) (by decide +kernel)) rfl
theorem m_l_L_25 : Cond.methodLink R_L 25 y_S_valueOf ∈ lw_g := k_g (List.mem_of_getElem? (i := 290) (by decide +kernel)) rfl
theorem m_l_S_25 : Cond.methodLink R_S 25 y_D_diskOf ∈ lw_g := k_g (List.mem_of_getElem? (i := 197) (by decide +kernel)) rfl
theorem m_l_S_31 : Cond.methodLink R_S 31 y_D_available ∈ lw_g := k_g (List.mem_of_getElem? (i := 198) (by decide +kernel)) rfl
theorem m_l_S_35 : Cond.methodLink R_S 35 y_D_wordAt ∈ lw_g := k_g (List.mem_of_getElem? (i := 199) (by decide +kernel)) rfl
theorem m_l_S_38 : Cond.methodLink R_S 38 y_S_restoreColumns ∈ lw_g := k_g (List.mem_of_getElem? (i := 200) (by decide +kernel)) rfl
theorem m_l_S_42 : Cond.methodLink R_S 42 y_S_meetFirstEquation ∈ lw_g := k_g (List.mem_of_getElem? (i := 229) (by decide +kernel)) rfl
theorem m_l_S_45 : Cond.methodLink R_S 45 y_S_meetSecondEquation ∈ lw_g := k_g (List.mem_of_getElem? (i := 233) (by decide +kernel)) rfl
theorem m_l_S_48 : Cond.methodLink R_S 48 y_S_firstGap ∈ lw_g := k_g (List.mem_of_getElem? (i := 204) (by decide +kernel)) rfl
theorem m_l_S_52 : Cond.methodLink R_S 52 y_S_secondGap ∈ lw_g := k_g (List.mem_of_getElem? (i := 208) (by decide +kernel)) rfl
theorem m_l_S_55 : Cond.methodLink R_S 55 y_W_dividedByPower ∈ lw_g := k_g (List.mem_of_getElem? (i := 217) (by decide +kernel)) rfl
theorem m_l_S_60 : Cond.methodLink R_S 60 y_W_dividedBy1PlusPower ∈ lw_g := k_g (List.mem_of_getElem? (i := 223) (by decide +kernel)) rfl
theorem m_l_S_63 : Cond.methodLink R_S 63 y_W_doubled ∈ lw_g := k_g (List.mem_of_getElem? (i := 212) (by decide +kernel)) rfl
theorem m_l_S_67 : Cond.methodLink R_S 67 y_W_timesPower ∈ lw_g := k_g (List.mem_of_getElem? (i := 271) (by decide +kernel)) rfl
theorem m_l_W_11 : Cond.methodLink R_W 11 y_W_doubled ∈ lw_g := k_g (List.mem_of_getElem? (i := 228) (by decide +kernel)) rfl
theorem m_l_W_15 : Cond.methodLink R_W 15 y_W_halved ∈ lw_g := k_g (List.mem_of_getElem? (i := 220) (by decide +kernel)) rfl
theorem m_l_A_103 : Cond.methodLink R_A 103 y_A_writeColumns ∈ lw_g := k_g (List.mem_of_getElem? (i := 254) (by decide +kernel)) rfl
theorem m_l_A_107 : Cond.methodLink R_A 107 y_D_hasDisk ∈ lw_g := k_g (List.mem_of_getElem? (i := 324) (by decide +kernel)) rfl
theorem m_l_A_110 : Cond.methodLink R_A 110 y_D_missing ∈ lw_g := k_g (List.mem_of_getElem? (i := 328) (by decide +kernel)) rfl
theorem m_l_A_113 : Cond.methodLink R_A 113 y_D_remove ∈ lw_g := k_g (List.mem_of_getElem? (i := 332) (by decide +kernel)) rfl
theorem m_l_A_116 : Cond.methodLink R_A 116 y_D_beginRebuilding ∈ lw_g := k_g (List.mem_of_getElem? (i := 340) (by decide +kernel)) rfl
theorem m_l_A_119 : Cond.methodLink R_A 119 y_D_nextToRebuild ∈ lw_g := k_g (List.mem_of_getElem? (i := 348) (by decide +kernel)) rfl
theorem m_l_A_122 : Cond.methodLink R_A 122 y_D_positionOf ∈ lw_g := k_g (List.mem_of_getElem? (i := 353) (by decide +kernel)) rfl
theorem m_l_A_125 : Cond.methodLink R_A 125 y_D_slotOf ∈ lw_g := k_g (List.mem_of_getElem? (i := 357) (by decide +kernel)) rfl
theorem m_l_A_128 : Cond.methodLink R_A 128 y_A_writeCell ∈ lw_g := k_g (List.mem_of_getElem? (i := 307) (by decide +kernel)) rfl
theorem m_l_A_132 : Cond.methodLink R_A 132 y_A_beginAct ∈ lw_g := k_g (List.mem_of_getElem? (i := 278) (by decide +kernel)) rfl
theorem m_l_A_136 : Cond.methodLink R_A 136 y_D_advance ∈ lw_g := k_g (List.mem_of_getElem? (i := 361) (by decide +kernel)) rfl
theorem m_l_A_139 : Cond.methodLink R_A 139 y_D_hasStripe ∈ lw_g := k_g (List.mem_of_getElem? (i := 369) (by decide +kernel)) rfl
theorem m_l_A_142 : Cond.methodLink R_A 142 y_D_allAvailable ∈ lw_g := k_g (List.mem_of_getElem? (i := 258) (by decide +kernel)) rfl
theorem m_l_A_145 : Cond.methodLink R_A 145 y_S_meetsBothEquations ∈ lw_g := k_g (List.mem_of_getElem? (i := 373) (by decide +kernel)) rfl
theorem m_l_A_148 : Cond.methodLink R_A 148 y_S_slotAtFault ∈ lw_g := k_g (List.mem_of_getElem? (i := 377) (by decide +kernel)) rfl
theorem m_l_A_151 : Cond.methodLink R_A 151 y_S_mendedWord ∈ lw_g := k_g (List.mem_of_getElem? (i := 381) (by decide +kernel)) rfl
theorem m_l_A_154 : Cond.methodLink R_A 154 y_D_hasCell ∈ lw_g := k_g (List.mem_of_getElem? (i := 389) (by decide +kernel)) rfl
theorem m_l_A_157 : Cond.methodLink R_A 157 y_D_put ∈ lw_g := k_g (List.mem_of_getElem? (i := 311) (by decide +kernel)) rfl
theorem m_l_A_165 : Cond.methodLink R_A 165 y_A_stop ∈ lw_g := k_g (List.mem_of_getElem? (i := 282) (by decide +kernel)) rfl
theorem m_l_A_168 : Cond.methodLink R_A 168 y_D_broken ∈ lw_g := k_g (List.mem_of_getElem? (i := 165) (by decide +kernel)) rfl
theorem m_l_A_171 : Cond.methodLink R_A 171 y_L_holdsEntry ∈ lw_g := k_g (List.mem_of_getElem? (i := 407) (by decide +kernel)) rfl
theorem m_l_A_174 : Cond.methodLink R_A 174 y_A_carryOutEntry ∈ lw_g := k_g (List.mem_of_getElem? (i := 291) (by decide +kernel)) rfl
theorem m_l_A_177 : Cond.methodLink R_A 177 y_S_load ∈ lw_g := k_g (List.mem_of_getElem? (i := 193) (by decide +kernel)) rfl
theorem m_l_A_181 : Cond.methodLink R_A 181 y_L_sealedStripe ∈ lw_g := k_g (List.mem_of_getElem? (i := 295) (by decide +kernel)) rfl
theorem m_l_A_189 : Cond.methodLink R_A 189 y_D_countAvailable ∈ lw_g := k_g (List.mem_of_getElem? (i := 237) (by decide +kernel)) rfl
theorem m_l_A_192 : Cond.methodLink R_A 192 y_S_setColumns ∈ lw_g := k_g (List.mem_of_getElem? (i := 263) (by decide +kernel)) rfl
theorem m_l_A_195 : Cond.methodLink R_A 195 y_S_changeColumns ∈ lw_g := k_g (List.mem_of_getElem? (i := 267) (by decide +kernel)) rfl
theorem m_l_A_198 : Cond.methodLink R_A 198 y_A_logColumns ∈ lw_g := k_g (List.mem_of_getElem? (i := 274) (by decide +kernel)) rfl
theorem m_l_A_201 : Cond.methodLink R_A 201 y_L_seal ∈ lw_g := k_g (List.mem_of_getElem? (i := 286) (by decide +kernel)) rfl
theorem m_l_A_205 : Cond.methodLink R_A 205 y_L_bears ∈ lw_g := k_g (List.mem_of_getElem? (i := 299) (by decide +kernel)) rfl
theorem m_l_A_208 : Cond.methodLink R_A 208 y_L_wordOf ∈ lw_g := k_g (List.mem_of_getElem? (i := 303) (by decide +kernel)) rfl
theorem m_l_A_211 : Cond.methodLink R_A 211 y_L_clear ∈ lw_g := k_g (List.mem_of_getElem? (i := 315) (by decide +kernel)) rfl
theorem m_l_A_22 : Cond.methodLink R_A 22 y_D_init ∈ lw_g := k_g (List.mem_of_getElem? (i := 58) (by decide +kernel)) rfl
theorem m_l_A_31 : Cond.methodLink R_A 31 y_L_init ∈ lw_g := k_g (List.mem_of_getElem? (i := 78) (by decide +kernel)) rfl
theorem m_l_A_40 : Cond.methodLink R_A 40 y_S_init ∈ lw_g := k_g (List.mem_of_getElem? (i := 97) (by decide +kernel)) rfl
theorem m_l_A_51 : Cond.methodLink R_A 51 y_A_hasBlock ∈ lw_g := k_g (List.mem_of_getElem? (i := 152) (by decide +kernel)) rfl
theorem m_l_A_57 : Cond.methodLink R_A 57 y_A_refusal ∈ lw_g := k_g (List.mem_of_getElem? (i := 161) (by decide +kernel)) rfl
theorem m_l_A_61 : Cond.methodLink R_A 61 y_D_diskOf ∈ lw_g := k_g (List.mem_of_getElem? (i := 169) (by decide +kernel)) rfl
theorem m_l_A_65 : Cond.methodLink R_A 65 y_D_available ∈ lw_g := k_g (List.mem_of_getElem? (i := 177) (by decide +kernel)) rfl
theorem m_l_A_72 : Cond.methodLink R_A 72 y_D_wordAt ∈ lw_g := k_g (List.mem_of_getElem? (i := 181) (by decide +kernel)) rfl
theorem m_l_A_75 : Cond.methodLink R_A 75 y_A_unsigned ∈ lw_g := k_g (List.mem_of_getElem? (i := 185) (by decide +kernel)) rfl
theorem m_l_A_79 : Cond.methodLink R_A 79 y_A_readAvailableCells ∈ lw_g := k_g (List.mem_of_getElem? (i := 189) (by decide +kernel)) rfl
theorem m_l_A_82 : Cond.methodLink R_A 82 y_S_valueOf ∈ lw_g := k_g (List.mem_of_getElem? (i := 242) (by decide +kernel)) rfl
theorem m_l_A_86 : Cond.methodLink R_A 86 y_A_writeRun ∈ lw_g := k_g (List.mem_of_getElem? (i := 250) (by decide +kernel)) rfl
theorem m_l_A_89 : Cond.methodLink R_A 89 y_A_blockCount ∈ lw_g := k_g (List.mem_of_getElem? (i := 156) (by decide +kernel)) rfl
theorem m_l_A_9 : Cond.methodLink R_A 9 y_A_within ∈ lw_g := k_g (List.mem_of_getElem? (i := 47) (by decide +kernel)) rfl
theorem m_l_Z_101 : Cond.methodLink R_Z 101 y_M_spares ∈ lw_g := k_g (List.mem_of_getElem? (i := 650) (by decide +kernel)) rfl
theorem m_l_Z_102 : Cond.methodLink R_Z 102 y_A_reads ∈ lw_g := k_g (List.mem_of_getElem? (i := 439) (by decide +kernel)) rfl
theorem m_l_Z_105 : Cond.methodLink R_Z 105 y_M_reads ∈ lw_g := k_g (List.mem_of_getElem? (i := 654) (by decide +kernel)) rfl
theorem m_l_Z_106 : Cond.methodLink R_Z 106 y_A_writes ∈ lw_g := k_g (List.mem_of_getElem? (i := 443) (by decide +kernel)) rfl
theorem m_l_Z_109 : Cond.methodLink R_Z 109 y_M_writes ∈ lw_g := k_g (List.mem_of_getElem? (i := 658) (by decide +kernel)) rfl
theorem m_l_Z_15 : Cond.methodLink R_Z 15 y_A_init ∈ lw_g := k_g (List.mem_of_getElem? (i := 41) (by decide +kernel)) rfl
theorem m_l_Z_20 : Cond.methodLink R_Z 20 y_M_init ∈ lw_g := k_g (List.mem_of_getElem? (i := 452) (by decide +kernel)) rfl
theorem m_l_Z_21 : Cond.methodLink R_Z 21 y_A_read ∈ lw_g := k_g (List.mem_of_getElem? (i := 148) (by decide +kernel)) rfl
theorem m_l_Z_25 : Cond.methodLink R_Z 25 y_M_read ∈ lw_g := k_g (List.mem_of_getElem? (i := 505) (by decide +kernel)) rfl
theorem m_l_Z_26 : Cond.methodLink R_Z 26 y_A_write ∈ lw_g := k_g (List.mem_of_getElem? (i := 246) (by decide +kernel)) rfl
theorem m_l_Z_30 : Cond.methodLink R_Z 30 y_M_write ∈ lw_g := k_g (List.mem_of_getElem? (i := 561) (by decide +kernel)) rfl
theorem m_l_Z_31 : Cond.methodLink R_Z 31 y_A_writeRun ∈ lw_g := k_g (List.mem_of_getElem? (i := 319) (by decide +kernel)) rfl
theorem m_l_Z_35 : Cond.methodLink R_Z 35 y_M_writeRun ∈ lw_g := k_g (List.mem_of_getElem? (i := 585) (by decide +kernel)) rfl
theorem m_l_Z_36 : Cond.methodLink R_Z 36 y_A_fail ∈ lw_g := k_g (List.mem_of_getElem? (i := 320) (by decide +kernel)) rfl
theorem m_l_Z_40 : Cond.methodLink R_Z 40 y_M_fail ∈ lw_g := k_g (List.mem_of_getElem? (i := 586) (by decide +kernel)) rfl
theorem m_l_Z_41 : Cond.methodLink R_Z 41 y_A_replace ∈ lw_g := k_g (List.mem_of_getElem? (i := 336) (by decide +kernel)) rfl
theorem m_l_Z_44 : Cond.methodLink R_Z 44 y_M_replace ∈ lw_g := k_g (List.mem_of_getElem? (i := 590) (by decide +kernel)) rfl
theorem m_l_Z_45 : Cond.methodLink R_Z 45 y_A_rebuild ∈ lw_g := k_g (List.mem_of_getElem? (i := 344) (by decide +kernel)) rfl
theorem m_l_Z_49 : Cond.methodLink R_Z 49 y_M_rebuild ∈ lw_g := k_g (List.mem_of_getElem? (i := 594) (by decide +kernel)) rfl
theorem m_l_Z_50 : Cond.methodLink R_Z 50 y_A_scrub ∈ lw_g := k_g (List.mem_of_getElem? (i := 365) (by decide +kernel)) rfl
theorem m_l_Z_54 : Cond.methodLink R_Z 54 y_M_scrub ∈ lw_g := k_g (List.mem_of_getElem? (i := 602) (by decide +kernel)) rfl
theorem m_l_Z_55 : Cond.methodLink R_Z 55 y_A_corrupt ∈ lw_g := k_g (List.mem_of_getElem? (i := 385) (by decide +kernel)) rfl
theorem m_l_Z_59 : Cond.methodLink R_Z 59 y_M_corrupt ∈ lw_g := k_g (List.mem_of_getElem? (i := 606) (by decide +kernel)) rfl
theorem m_l_Z_60 : Cond.methodLink R_Z 60 y_A_arm ∈ lw_g := k_g (List.mem_of_getElem? (i := 395) (by decide +kernel)) rfl
theorem m_l_Z_63 : Cond.methodLink R_Z 63 y_M_arm ∈ lw_g := k_g (List.mem_of_getElem? (i := 614) (by decide +kernel)) rfl
theorem m_l_Z_64 : Cond.methodLink R_Z 64 y_A_crash ∈ lw_g := k_g (List.mem_of_getElem? (i := 399) (by decide +kernel)) rfl
theorem m_l_Z_68 : Cond.methodLink R_Z 68 y_M_crash ∈ lw_g := k_g (List.mem_of_getElem? (i := 618) (by decide +kernel)) rfl
theorem m_l_Z_69 : Cond.methodLink R_Z 69 y_A_restart ∈ lw_g := k_g (List.mem_of_getElem? (i := 403) (by decide +kernel)) rfl
theorem m_l_Z_72 : Cond.methodLink R_Z 72 y_M_restart ∈ lw_g := k_g (List.mem_of_getElem? (i := 622) (by decide +kernel)) rfl
theorem m_l_Z_73 : Cond.methodLink R_Z 73 y_A_faults ∈ lw_g := k_g (List.mem_of_getElem? (i := 411) (by decide +kernel)) rfl
theorem m_l_Z_76 : Cond.methodLink R_Z 76 y_M_faults ∈ lw_g := k_g (List.mem_of_getElem? (i := 626) (by decide +kernel)) rfl
theorem m_l_Z_77 : Cond.methodLink R_Z 77 y_A_peek ∈ lw_g := k_g (List.mem_of_getElem? (i := 415) (by decide +kernel)) rfl
theorem m_l_Z_81 : Cond.methodLink R_Z 81 y_M_peek ∈ lw_g := k_g (List.mem_of_getElem? (i := 630) (by decide +kernel)) rfl
theorem m_l_Z_82 : Cond.methodLink R_Z 82 y_A_locate ∈ lw_g := k_g (List.mem_of_getElem? (i := 419) (by decide +kernel)) rfl
theorem m_l_Z_85 : Cond.methodLink R_Z 85 y_M_locate ∈ lw_g := k_g (List.mem_of_getElem? (i := 634) (by decide +kernel)) rfl
theorem m_l_Z_86 : Cond.methodLink R_Z 86 y_A_position ∈ lw_g := k_g (List.mem_of_getElem? (i := 423) (by decide +kernel)) rfl
theorem m_l_Z_89 : Cond.methodLink R_Z 89 y_M_position ∈ lw_g := k_g (List.mem_of_getElem? (i := 638) (by decide +kernel)) rfl
theorem m_l_Z_9 : Cond.methodLink R_Z 9 y_Z_cell ∈ lw_g := k_g (List.mem_of_getElem? (i := 447) (by decide +kernel)) rfl
theorem m_l_Z_90 : Cond.methodLink R_Z 90 y_A_mode ∈ lw_g := k_g (List.mem_of_getElem? (i := 427) (by decide +kernel)) rfl
theorem m_l_Z_93 : Cond.methodLink R_Z 93 y_M_mode ∈ lw_g := k_g (List.mem_of_getElem? (i := 642) (by decide +kernel)) rfl
theorem m_l_Z_94 : Cond.methodLink R_Z 94 y_A_logged ∈ lw_g := k_g (List.mem_of_getElem? (i := 431) (by decide +kernel)) rfl
theorem m_l_Z_97 : Cond.methodLink R_Z 97 y_M_logged ∈ lw_g := k_g (List.mem_of_getElem? (i := 646) (by decide +kernel)) rfl
theorem m_l_Z_98 : Cond.methodLink R_Z 98 y_A_spares ∈ lw_g := k_g (List.mem_of_getElem? (i := 435) (by decide +kernel)) rfl
theorem m_l_M_102 : Cond.methodLink R_M 102 y_M_broken ∈ lw_g := k_g (List.mem_of_getElem? (i := 514) (by decide +kernel)) rfl
theorem m_l_M_112 : Cond.methodLink R_M 112 y_M_availableIn ∈ lw_g := k_g (List.mem_of_getElem? (i := 528) (by decide +kernel)) rfl
theorem m_l_M_116 : Cond.methodLink R_M 116 y_M_values ∈ lw_g := k_g (List.mem_of_getElem? (i := 532) (by decide +kernel)) rfl
theorem m_l_M_122 : Cond.methodLink R_M 122 y_M_writeRun ∈ lw_g := k_g (List.mem_of_getElem? (i := 565) (by decide +kernel)) rfl
theorem m_l_M_126 : Cond.methodLink R_M 126 y_M_writeStripe ∈ lw_g := k_g (List.mem_of_getElem? (i := 569) (by decide +kernel)) rfl
theorem m_l_M_130 : Cond.methodLink R_M 130 y_M_apply ∈ lw_g := k_g (List.mem_of_getElem? (i := 577) (by decide +kernel)) rfl
theorem m_l_M_133 : Cond.methodLink R_M 133 y_M_valueOn ∈ lw_g := k_g (List.mem_of_getElem? (i := 598) (by decide +kernel)) rfl
theorem m_l_M_136 : Cond.methodLink R_M 136 y_M_isCell ∈ lw_g := k_g (List.mem_of_getElem? (i := 610) (by decide +kernel)) rfl
theorem m_l_M_35 : Cond.methodLink R_M 35 y_M_byteTimes ∈ lw_g := k_g (List.mem_of_getElem? (i := 551) (by decide +kernel)) rfl
theorem m_l_M_39 : Cond.methodLink R_M 39 y_M_diskOf ∈ lw_g := k_g (List.mem_of_getElem? (i := 524) (by decide +kernel)) rfl
theorem m_l_M_42 : Cond.methodLink R_M 42 y_M_times ∈ lw_g := k_g (List.mem_of_getElem? (i := 548) (by decide +kernel)) rfl
theorem m_l_M_45 : Cond.methodLink R_M 45 y_M_has ∈ lw_g := k_g (List.mem_of_getElem? (i := 520) (by decide +kernel)) rfl
theorem m_l_M_49 : Cond.methodLink R_M 49 y_M_cellOf ∈ lw_g := k_g (List.mem_of_getElem? (i := 536) (by decide +kernel)) rfl
theorem m_l_M_52 : Cond.methodLink R_M 52 y_M_sum ∈ lw_g := k_g (List.mem_of_getElem? (i := 540) (by decide +kernel)) rfl
theorem m_l_M_56 : Cond.methodLink R_M 56 y_M_weighted ∈ lw_g := k_g (List.mem_of_getElem? (i := 544) (by decide +kernel)) rfl
theorem m_l_M_59 : Cond.methodLink R_M 59 y_M_solve ∈ lw_g := k_g (List.mem_of_getElem? (i := 554) (by decide +kernel)) rfl
theorem m_l_M_63 : Cond.methodLink R_M 63 y_M_unTimes ∈ lw_g := k_g (List.mem_of_getElem? (i := 557) (by decide +kernel)) rfl
theorem m_l_M_79 : Cond.methodLink R_M 79 y_M_act ∈ lw_g := k_g (List.mem_of_getElem? (i := 573) (by decide +kernel)) rfl
theorem m_l_M_92 : Cond.methodLink R_M 92 y_M_store ∈ lw_g := k_g (List.mem_of_getElem? (i := 581) (by decide +kernel)) rfl
theorem m_l_M_96 : Cond.methodLink R_M 96 y_M_isBlock ∈ lw_g := k_g (List.mem_of_getElem? (i := 509) (by decide +kernel)) rfl
theorem m_code_max : Cond.code Lib.Math.max.name Lib.Math.max.code 2 (some .int) ∈ lw_g := k_g (List.mem_of_getElem? (i := 55) rfl) rfl
theorem m_stat_max : Cond.static Lib.Math.max.name ∈ lw_g := k_g (List.mem_of_getElem? (i := 54) (by decide +kernel)) rfl
theorem m_l_A_95 : Cond.methodLink R_A 95 Lib.Math.max.name ∈ lw_g := k_g (List.mem_of_getElem? (i := 53) (by decide +kernel)) rfl
theorem m_code_min : Cond.code Lib.Math.min.name Lib.Math.min.code 2 (some .int) ∈ lw_g := k_g (List.mem_of_getElem? (i := 52) rfl) rfl
theorem m_stat_min : Cond.static Lib.Math.min.name ∈ lw_g := k_g (List.mem_of_getElem? (i := 51) (by decide +kernel)) rfl
theorem m_l_A_100 : Cond.methodLink R_A 100 Lib.Math.min.name ∈ lw_g := k_g (List.mem_of_getElem? (i := 50) (by decide +kernel)) rfl
theorem m_ini_Math : Cond.initialized "java/lang/Math" ∈ lw_g := k_g (List.mem_of_getElem? (i := 33) (by decide +kernel)) rfl
theorem m_arr : Cond.arrayClass .int ∈ lw_g := k_g (List.mem_of_getElem? (i := 75) (by decide +kernel)) rfl
