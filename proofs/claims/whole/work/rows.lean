section
-- ===== PART A: goes FIRST, ahead of the names: the tables' words, and 'selects' of the private methods out of them =====
/-- a private method of a class that the tables say can be made, by its rows of tables_1 -/
def lw_okq (q : MethodName × Nat) : Prop := (q.1.cls ≠ "java/lang/invoke/MethodHandle" ∧ q.1.cls ≠ "java/lang/invoke/VarHandle") ∧ Cond.instantiable q.1.cls q.2 ∈ tables_1 ∧ Cond.privateMethod q.1 ∈ tables_1 ∧ Cond.instanceMethod q.1 ∈ tables_1
theorem lw_p0 : lw_okq (⟨"RollingSync", "side", "(I)LRollingSync$Side;"⟩, 4) := ⟨⟨by decide +kernel, by decide +kernel⟩, List.mem_of_getElem? (i := 15) (by decide +kernel), List.mem_of_getElem? (i := 323) (by decide +kernel), List.mem_of_getElem? (i := 324) (by decide +kernel)⟩
theorem lw_p1 : lw_okq (⟨"RollingSync", "existing", "(II)LRollingSync$Row;"⟩, 4) := ⟨⟨by decide +kernel, by decide +kernel⟩, List.mem_of_getElem? (i := 15) (by decide +kernel), List.mem_of_getElem? (i := 351) (by decide +kernel), List.mem_of_getElem? (i := 352) (by decide +kernel)⟩
theorem lw_p2 : lw_okq (⟨"RollingSync$Receiver", "putToWait", "(I)V"⟩, 17) := ⟨⟨by decide +kernel, by decide +kernel⟩, List.mem_of_getElem? (i := 189) (by decide +kernel), List.mem_of_getElem? (i := 436) (by decide +kernel), List.mem_of_getElem? (i := 437) (by decide +kernel)⟩
theorem lw_p3 : lw_okq (⟨"RollingSync$Run", "makeMessage", "()V"⟩, 15) := ⟨⟨by decide +kernel, by decide +kernel⟩, List.mem_of_getElem? (i := 94) (by decide +kernel), List.mem_of_getElem? (i := 457) (by decide +kernel), List.mem_of_getElem? (i := 458) (by decide +kernel)⟩
theorem lw_p4 : lw_okq (⟨"RollingSync$Sender", "makePart", "(LRollingSync$Message;LRollingSync$Row;)V"⟩, 6) := ⟨⟨by decide +kernel, by decide +kernel⟩, List.mem_of_getElem? (i := 159) (by decide +kernel), List.mem_of_getElem? (i := 475) (by decide +kernel), List.mem_of_getElem? (i := 476) (by decide +kernel)⟩
theorem lw_p5 : lw_okq (⟨"RollingSync$Sender", "look", "(LRollingSync$Row;)I"⟩, 6) := ⟨⟨by decide +kernel, by decide +kernel⟩, List.mem_of_getElem? (i := 159) (by decide +kernel), List.mem_of_getElem? (i := 479) (by decide +kernel), List.mem_of_getElem? (i := 480) (by decide +kernel)⟩
theorem lw_p6 : lw_okq (⟨"RollingSync$Receiver", "leastToDo", "()I"⟩, 17) := ⟨⟨by decide +kernel, by decide +kernel⟩, List.mem_of_getElem? (i := 189) (by decide +kernel), List.mem_of_getElem? (i := 516) (by decide +kernel), List.mem_of_getElem? (i := 517) (by decide +kernel)⟩
theorem lw_p7 : lw_okq (⟨"RollingSync$Run", "emit", "()V"⟩, 15) := ⟨⟨by decide +kernel, by decide +kernel⟩, List.mem_of_getElem? (i := 94) (by decide +kernel), List.mem_of_getElem? (i := 533) (by decide +kernel), List.mem_of_getElem? (i := 534) (by decide +kernel)⟩
theorem lw_p8 : lw_okq (⟨"RollingSync$Run", "takeMessage", "()V"⟩, 15) := ⟨⟨by decide +kernel, by decide +kernel⟩, List.mem_of_getElem? (i := 94) (by decide +kernel), List.mem_of_getElem? (i := 546) (by decide +kernel), List.mem_of_getElem? (i := 547) (by decide +kernel)⟩
theorem lw_p9 : lw_okq (⟨"RollingSync$Receiver", "settle", "()V"⟩, 17) := ⟨⟨by decide +kernel, by decide +kernel⟩, List.mem_of_getElem? (i := 189) (by decide +kernel), List.mem_of_getElem? (i := 570) (by decide +kernel), List.mem_of_getElem? (i := 571) (by decide +kernel)⟩
theorem lw_p10 : lw_okq (⟨"RollingSync$Run", "finishIfNothingFollows", "()V"⟩, 15) := ⟨⟨by decide +kernel, by decide +kernel⟩, List.mem_of_getElem? (i := 94) (by decide +kernel), List.mem_of_getElem? (i := 597) (by decide +kernel), List.mem_of_getElem? (i := 598) (by decide +kernel)⟩
theorem lw_p11 : lw_okq (⟨"RollingSyncModel", "sizeOf", "(I)I"⟩, 42) := ⟨⟨by decide +kernel, by decide +kernel⟩, List.mem_of_getElem? (i := 681) (by decide +kernel), List.mem_of_getElem? (i := 822) (by decide +kernel), List.mem_of_getElem? (i := 823) (by decide +kernel)⟩
theorem lw_p12 : lw_okq (⟨"RollingSyncModel", "steps", "()V"⟩, 42) := ⟨⟨by decide +kernel, by decide +kernel⟩, List.mem_of_getElem? (i := 681) (by decide +kernel), List.mem_of_getElem? (i := 880) (by decide +kernel), List.mem_of_getElem? (i := 881) (by decide +kernel)⟩
theorem lw_p13 : lw_okq (⟨"RollingSyncModel", "makes", "()V"⟩, 42) := ⟨⟨by decide +kernel, by decide +kernel⟩, List.mem_of_getElem? (i := 681) (by decide +kernel), List.mem_of_getElem? (i := 884) (by decide +kernel), List.mem_of_getElem? (i := 885) (by decide +kernel)⟩
theorem lw_p14 : lw_okq (⟨"RollingSyncModel", "message", "(III)V"⟩, 42) := ⟨⟨by decide +kernel, by decide +kernel⟩, List.mem_of_getElem? (i := 681) (by decide +kernel), List.mem_of_getElem? (i := 888) (by decide +kernel), List.mem_of_getElem? (i := 889) (by decide +kernel)⟩
theorem lw_p15 : lw_okq (⟨"RollingSyncModel", "makesOfFile", "()V"⟩, 42) := ⟨⟨by decide +kernel, by decide +kernel⟩, List.mem_of_getElem? (i := 681) (by decide +kernel), List.mem_of_getElem? (i := 893) (by decide +kernel), List.mem_of_getElem? (i := 894) (by decide +kernel)⟩
def lw_privs_1 : List (MethodName × Nat) := [(⟨"RollingSync", "side", "(I)LRollingSync$Side;"⟩, 4), (⟨"RollingSync", "existing", "(II)LRollingSync$Row;"⟩, 4), (⟨"RollingSync$Receiver", "putToWait", "(I)V"⟩, 17), (⟨"RollingSync$Run", "makeMessage", "()V"⟩, 15), (⟨"RollingSync$Sender", "makePart", "(LRollingSync$Message;LRollingSync$Row;)V"⟩, 6), (⟨"RollingSync$Sender", "look", "(LRollingSync$Row;)I"⟩, 6), (⟨"RollingSync$Receiver", "leastToDo", "()I"⟩, 17), (⟨"RollingSync$Run", "emit", "()V"⟩, 15), (⟨"RollingSync$Run", "takeMessage", "()V"⟩, 15), (⟨"RollingSync$Receiver", "settle", "()V"⟩, 17), (⟨"RollingSync$Run", "finishIfNothingFollows", "()V"⟩, 15), (⟨"RollingSyncModel", "sizeOf", "(I)I"⟩, 42), (⟨"RollingSyncModel", "steps", "()V"⟩, 42), (⟨"RollingSyncModel", "makes", "()V"⟩, 42), (⟨"RollingSyncModel", "message", "(III)V"⟩, 42), (⟨"RollingSyncModel", "makesOfFile", "()V"⟩, 42)]
theorem lw_r1 : ∀ q ∈ lw_privs_1, lw_okq q := List.forall_mem_cons.mpr ⟨lw_p0, List.forall_mem_cons.mpr ⟨lw_p1, List.forall_mem_cons.mpr ⟨lw_p2, List.forall_mem_cons.mpr ⟨lw_p3, List.forall_mem_cons.mpr ⟨lw_p4, List.forall_mem_cons.mpr ⟨lw_p5, List.forall_mem_cons.mpr ⟨lw_p6, List.forall_mem_cons.mpr ⟨lw_p7, List.forall_mem_cons.mpr ⟨lw_p8, List.forall_mem_cons.mpr ⟨lw_p9, List.forall_mem_cons.mpr ⟨lw_p10, List.forall_mem_cons.mpr ⟨lw_p11, List.forall_mem_cons.mpr ⟨lw_p12, List.forall_mem_cons.mpr ⟨lw_p13, List.forall_mem_cons.mpr ⟨lw_p14, List.forall_mem_cons.mpr ⟨lw_p15, fun _ h => absurd h List.not_mem_nil⟩⟩⟩⟩⟩⟩⟩⟩⟩⟩⟩⟩⟩⟩⟩⟩
theorem lw_p16 : lw_okq (⟨"RollingSyncModel", "look", "(I)I"⟩, 42) := ⟨⟨by decide +kernel, by decide +kernel⟩, List.mem_of_getElem? (i := 681) (by decide +kernel), List.mem_of_getElem? (i := 897) (by decide +kernel), List.mem_of_getElem? (i := 898) (by decide +kernel)⟩
theorem lw_p17 : lw_okq (⟨"RollingSyncModel", "target", "()I"⟩, 42) := ⟨⟨by decide +kernel, by decide +kernel⟩, List.mem_of_getElem? (i := 681) (by decide +kernel), List.mem_of_getElem? (i := 904) (by decide +kernel), List.mem_of_getElem? (i := 905) (by decide +kernel)⟩
theorem lw_p18 : lw_okq (⟨"RollingSyncModel", "makesSums", "()V"⟩, 42) := ⟨⟨by decide +kernel, by decide +kernel⟩, List.mem_of_getElem? (i := 681) (by decide +kernel), List.mem_of_getElem? (i := 908) (by decide +kernel), List.mem_of_getElem? (i := 909) (by decide +kernel)⟩
theorem lw_p19 : lw_okq (⟨"RollingSyncModel", "leastToDo", "()I"⟩, 42) := ⟨⟨by decide +kernel, by decide +kernel⟩, List.mem_of_getElem? (i := 681) (by decide +kernel), List.mem_of_getElem? (i := 912) (by decide +kernel), List.mem_of_getElem? (i := 913) (by decide +kernel)⟩
theorem lw_p20 : lw_okq (⟨"RollingSyncModel", "isToLose", "()Z"⟩, 42) := ⟨⟨by decide +kernel, by decide +kernel⟩, List.mem_of_getElem? (i := 681) (by decide +kernel), List.mem_of_getElem? (i := 916) (by decide +kernel), List.mem_of_getElem? (i := 917) (by decide +kernel)⟩
theorem lw_p21 : lw_okq (⟨"RollingSyncModel", "comes", "()V"⟩, 42) := ⟨⟨by decide +kernel, by decide +kernel⟩, List.mem_of_getElem? (i := 681) (by decide +kernel), List.mem_of_getElem? (i := 920) (by decide +kernel), List.mem_of_getElem? (i := 921) (by decide +kernel)⟩
theorem lw_p22 : lw_okq (⟨"RollingSyncModel", "nodeComes", "()V"⟩, 42) := ⟨⟨by decide +kernel, by decide +kernel⟩, List.mem_of_getElem? (i := 681) (by decide +kernel), List.mem_of_getElem? (i := 924) (by decide +kernel), List.mem_of_getElem? (i := 925) (by decide +kernel)⟩
theorem lw_p23 : lw_okq (⟨"RollingSyncModel", "sumsCome", "()V"⟩, 42) := ⟨⟨by decide +kernel, by decide +kernel⟩, List.mem_of_getElem? (i := 681) (by decide +kernel), List.mem_of_getElem? (i := 928) (by decide +kernel), List.mem_of_getElem? (i := 929) (by decide +kernel)⟩
theorem lw_p24 : lw_okq (⟨"RollingSyncModel", "builds", "(B)V"⟩, 42) := ⟨⟨by decide +kernel, by decide +kernel⟩, List.mem_of_getElem? (i := 681) (by decide +kernel), List.mem_of_getElem? (i := 932) (by decide +kernel), List.mem_of_getElem? (i := 933) (by decide +kernel)⟩
theorem lw_p25 : lw_okq (⟨"RollingSyncModel", "endComes", "()V"⟩, 42) := ⟨⟨by decide +kernel, by decide +kernel⟩, List.mem_of_getElem? (i := 681) (by decide +kernel), List.mem_of_getElem? (i := 936) (by decide +kernel), List.mem_of_getElem? (i := 937) (by decide +kernel)⟩
theorem lw_p26 : lw_okq (⟨"RollingSyncModel", "ends", "()V"⟩, 42) := ⟨⟨by decide +kernel, by decide +kernel⟩, List.mem_of_getElem? (i := 681) (by decide +kernel), List.mem_of_getElem? (i := 943) (by decide +kernel), List.mem_of_getElem? (i := 944) (by decide +kernel)⟩
def lw_privs_2 : List (MethodName × Nat) := [(⟨"RollingSyncModel", "look", "(I)I"⟩, 42), (⟨"RollingSyncModel", "target", "()I"⟩, 42), (⟨"RollingSyncModel", "makesSums", "()V"⟩, 42), (⟨"RollingSyncModel", "leastToDo", "()I"⟩, 42), (⟨"RollingSyncModel", "isToLose", "()Z"⟩, 42), (⟨"RollingSyncModel", "comes", "()V"⟩, 42), (⟨"RollingSyncModel", "nodeComes", "()V"⟩, 42), (⟨"RollingSyncModel", "sumsCome", "()V"⟩, 42), (⟨"RollingSyncModel", "builds", "(B)V"⟩, 42), (⟨"RollingSyncModel", "endComes", "()V"⟩, 42), (⟨"RollingSyncModel", "ends", "()V"⟩, 42)]
theorem lw_r2 : ∀ q ∈ lw_privs_2, lw_okq q := List.forall_mem_cons.mpr ⟨lw_p16, List.forall_mem_cons.mpr ⟨lw_p17, List.forall_mem_cons.mpr ⟨lw_p18, List.forall_mem_cons.mpr ⟨lw_p19, List.forall_mem_cons.mpr ⟨lw_p20, List.forall_mem_cons.mpr ⟨lw_p21, List.forall_mem_cons.mpr ⟨lw_p22, List.forall_mem_cons.mpr ⟨lw_p23, List.forall_mem_cons.mpr ⟨lw_p24, List.forall_mem_cons.mpr ⟨lw_p25, List.forall_mem_cons.mpr ⟨lw_p26, fun _ h => absurd h List.not_mem_nil⟩⟩⟩⟩⟩⟩⟩⟩⟩⟩⟩
def lw_privs : List (MethodName × Nat) := lw_privs_1 ++ (lw_privs_2)
def lw_tbl : List Cond := k2_sels lw_privs ++ tables_1
theorem lw_privs_ok : ∀ q ∈ lw_privs, lw_okq q := by
  show ∀ q ∈ lw_privs_1 ++ (lw_privs_2), lw_okq q
  exact List.forall_mem_append.mpr ⟨lw_r1, lw_r2⟩
def RX0 : String := "RollingSync$Line"
def TX0 : u_T := fun k => match k with
  | 0 => ("RollingSync$Line", "told", "J", false)
  | 1 => ("RollingSync$Line", "byZero", "J", false)
  | _ => ("RollingSync$Line", "byOne", "J", false)
def tyX0 : Nat → FieldType := fun k => match k with
  | 0 => .long
  | 1 => .long
  | _ => .long
theorem nmX0 : ∀ a, a < 3 → ∀ b, b < 3 → a ≠ b → (TX0 a).2.1 ≠ (TX0 b).2.1 := by decide +kernel
theorem tyX0_ok : ∀ k, k < 3 → parseFieldDescriptor (TX0 k).2.2.1 = some (tyX0 k) := by decide +kernel
abbrev cX0_init : ByteArray := prog_2_method_1_code
def yX0_init : MethodName := ⟨RX0, "<init>", "()V"⟩
abbrev cX0_tellLoss : ByteArray := prog_2_method_2_code
def yX0_tellLoss : MethodName := ⟨RX0, "tellLoss", "(I)I"⟩
abbrev cX0_bytesBy : ByteArray := prog_2_method_3_code
def yX0_bytesBy : MethodName := ⟨RX0, "bytesBy", "(I)J"⟩
abbrev cX0_carry : ByteArray := prog_2_method_4_code
def yX0_carry : MethodName := ⟨RX0, "carry", "(II)Z"⟩
def RX1 : String := "RollingSync$Message"
def TX1 : u_T := fun k => match k with
  | 0 => ("RollingSync$Message", "bytes", "LRollingSync$Row;", true)
  | 1 => ("RollingSync$Message", "sums", "LRollingSync$Sums;", true)
  | 2 => ("RollingSync$Message", "kind", "I", false)
  | 3 => ("RollingSync$Message", "length", "I", false)
  | 4 => ("RollingSync$Message", "subject", "I", false)
  | _ => ("RollingSync$Message", "digest", "J", false)
def tyX1 : Nat → FieldType := fun k => match k with
  | 0 => .object "RollingSync$Row"
  | 1 => .object "RollingSync$Sums"
  | 2 => .int
  | 3 => .int
  | 4 => .int
  | _ => .long
theorem nmX1 : ∀ a, a < 6 → ∀ b, b < 6 → a ≠ b → (TX1 a).2.1 ≠ (TX1 b).2.1 := by decide +kernel
theorem tyX1_ok : ∀ k, k < 6 → parseFieldDescriptor (TX1 k).2.2.1 = some (tyX1 k) := by decide +kernel
abbrev cX1_init : ByteArray := prog_3_method_1_code
def yX1_init : MethodName := ⟨RX1, "<init>", "()V"⟩
abbrev cX1_become : ByteArray := prog_3_method_2_code
def yX1_become : MethodName := ⟨RX1, "become", "(II)V"⟩
abbrev cX1_isByTarget : ByteArray := prog_3_method_3_code
def yX1_isByTarget : MethodName := ⟨RX1, "isByTarget", "()Z"⟩
def RX2 : String := "RollingSync$Receiver"
def TX2 : u_T := fun k => match k with
  | 0 => ("RollingSync$Receiver", "waiting", "[I", true)
  | 1 => ("RollingSync$Receiver", "toDo", "[Z", true)
  | 2 => ("RollingSync$Receiver", "dropLater", "[Z", true)
  | 3 => ("RollingSync$Receiver", "built", "LRollingSync$Row;", true)
  | 4 => ("RollingSync$Receiver", "side", "LRollingSync$Side;", false)
  | 5 => ("RollingSync$Receiver", "waitingCount", "I", false)
  | 6 => ("RollingSync$Receiver", "block", "I", false)
  | 7 => ("RollingSync$Receiver", "firstK", "I", false)
  | 8 => ("RollingSync$Receiver", "rule", "I", false)
  | 9 => ("RollingSync$Receiver", "file", "I", false)
  | 10 => ("RollingSync$Receiver", "k", "I", false)
  | 11 => ("RollingSync$Receiver", "tries", "I", false)
  | 12 => ("RollingSync$Receiver", "done", "I", false)
  | 13 => ("RollingSync$Receiver", "left", "I", false)
  | 14 => ("RollingSync$Receiver", "triesOver", "I", false)
  | 15 => ("RollingSync$Receiver", "blocksCame", "I", false)
  | _ => ("RollingSync$Receiver", "bytesCame", "I", false)
def tyX2 : Nat → FieldType := fun k => match k with
  | 0 => .array .int
  | 1 => .array .boolean
  | 2 => .array .boolean
  | 3 => .object "RollingSync$Row"
  | 4 => .object "RollingSync$Side"
  | 5 => .int
  | 6 => .int
  | 7 => .int
  | 8 => .int
  | 9 => .int
  | 10 => .int
  | 11 => .int
  | 12 => .int
  | 13 => .int
  | 14 => .int
  | 15 => .int
  | _ => .int
theorem nmX2 : ∀ a, a < 17 → ∀ b, b < 17 → a ≠ b → (TX2 a).2.1 ≠ (TX2 b).2.1 := by decide +kernel
theorem tyX2_ok : ∀ k, k < 17 → parseFieldDescriptor (TX2 k).2.2.1 = some (tyX2 k) := by decide +kernel
abbrev cX2_init : ByteArray := prog_4_method_1_code
def yX2_init : MethodName := ⟨RX2, "<init>", "(LRollingSync$Side;)V"⟩
abbrev cX2_start : ByteArray := prog_4_method_2_code
def yX2_start : MethodName := ⟨RX2, "start", "(LRollingSync$Side;III)V"⟩
abbrev cX2_wantsMore : ByteArray := prog_4_method_3_code
def yX2_wantsMore : MethodName := ⟨RX2, "wantsMore", "()Z"⟩
abbrev cX2_toDoCount : ByteArray := prog_4_method_4_code
def yX2_toDoCount : MethodName := ⟨RX2, "toDoCount", "()I"⟩
abbrev cX2_makeNext : ByteArray := prog_4_method_5_code
def yX2_makeNext : MethodName := ⟨RX2, "makeNext", "(LRollingSync$Message;)V"⟩
abbrev cX2_takeNode : ByteArray := prog_4_method_6_code
def yX2_takeNode : MethodName := ⟨RX2, "takeNode", "(IJ)V"⟩
abbrev cX2_takeGone : ByteArray := prog_4_method_7_code
def yX2_takeGone : MethodName := ⟨RX2, "takeGone", "()V"⟩
abbrev cX2_takeBytes : ByteArray := prog_4_method_8_code
def yX2_takeBytes : MethodName := ⟨RX2, "takeBytes", "(LRollingSync$Row;)V"⟩
abbrev cX2_takeBlock : ByteArray := prog_4_method_9_code
def yX2_takeBlock : MethodName := ⟨RX2, "takeBlock", "(I)V"⟩
abbrev cX2_takeEnd : ByteArray := prog_4_method_10_code
def yX2_takeEnd : MethodName := ⟨RX2, "takeEnd", "(J)V"⟩
abbrev cX2_dropTold : ByteArray := prog_4_method_11_code
def yX2_dropTold : MethodName := ⟨RX2, "dropTold", "()V"⟩
abbrev cX2_forgetBuilt : ByteArray := prog_4_method_12_code
def yX2_forgetBuilt : MethodName := ⟨RX2, "forgetBuilt", "()V"⟩
abbrev cX2_settle : ByteArray := prog_4_method_13_code
def yX2_settle : MethodName := ⟨RX2, "settle", "()V"⟩
abbrev cX2_putToWait : ByteArray := prog_4_method_14_code
def yX2_putToWait : MethodName := ⟨RX2, "putToWait", "(I)V"⟩
abbrev cX2_leastToDo : ByteArray := prog_4_method_15_code
def yX2_leastToDo : MethodName := ⟨RX2, "leastToDo", "()I"⟩
def RX3 : String := "RollingSync$Row"
def TX3 : u_T := fun k => match k with
  | 0 => ("RollingSync$Row", "cells", "[I", true)
  | _ => ("RollingSync$Row", "count", "I", false)
def tyX3 : Nat → FieldType := fun k => match k with
  | 0 => .array .int
  | _ => .int
theorem nmX3 : ∀ a, a < 2 → ∀ b, b < 2 → a ≠ b → (TX3 a).2.1 ≠ (TX3 b).2.1 := by decide +kernel
theorem tyX3_ok : ∀ k, k < 2 → parseFieldDescriptor (TX3 k).2.2.1 = some (tyX3 k) := by decide +kernel
abbrev cX3_init : ByteArray := prog_5_method_1_code
def yX3_init : MethodName := ⟨RX3, "<init>", "(I)V"⟩
abbrev cX3_count : ByteArray := prog_5_method_2_code
def yX3_count : MethodName := ⟨RX3, "count", "()I"⟩
abbrev cX3_holds : ByteArray := prog_5_method_3_code
def yX3_holds : MethodName := ⟨RX3, "holds", "(II)Z"⟩
abbrev cX3_get : ByteArray := prog_5_method_4_code
def yX3_get : MethodName := ⟨RX3, "get", "(I)I"⟩
abbrev cX3_set : ByteArray := prog_5_method_5_code
def yX3_set : MethodName := ⟨RX3, "set", "(II)V"⟩
abbrev cX3_add : ByteArray := prog_5_method_6_code
def yX3_add : MethodName := ⟨RX3, "add", "(I)V"⟩
abbrev cX3_addAll : ByteArray := prog_5_method_7_code
def yX3_addAll : MethodName := ⟨RX3, "addAll", "(LRollingSync$Row;)V"⟩
abbrev cX3_keep : ByteArray := prog_5_method_8_code
def yX3_keep : MethodName := ⟨RX3, "keep", "(I)V"⟩
abbrev cX3_digestOf : ByteArray := prog_5_method_9_code
def yX3_digestOf : MethodName := ⟨RX3, "digestOf", "(II)J"⟩
abbrev cX3_weakOf : ByteArray := prog_5_method_10_code
def yX3_weakOf : MethodName := ⟨RX3, "weakOf", "(II)J"⟩
def RX4 : String := "RollingSync$Run"
def TX4 : u_T := fun k => match k with
  | 0 => ("RollingSync$Run", "zero", "LRollingSync$Side;", true)
  | 1 => ("RollingSync$Run", "one", "LRollingSync$Side;", true)
  | 2 => ("RollingSync$Run", "line", "LRollingSync$Line;", true)
  | 3 => ("RollingSync$Run", "sender", "LRollingSync$Sender;", true)
  | 4 => ("RollingSync$Run", "receiver", "LRollingSync$Receiver;", true)
  | 5 => ("RollingSync$Run", "message", "LRollingSync$Message;", true)
  | 6 => ("RollingSync$Run", "phase", "I", false)
  | 7 => ("RollingSync$Run", "source", "I", false)
  | 8 => ("RollingSync$Run", "lost", "Z", false)
  | 9 => ("RollingSync$Run", "silentSteps", "I", false)
  | 10 => ("RollingSync$Run", "steps", "I", false)
  | 11 => ("RollingSync$Run", "messages", "I", false)
  | 12 => ("RollingSync$Run", "lostMessages", "I", false)
  | 13 => ("RollingSync$Run", "latestK", "I", false)
  | _ => ("RollingSync$Run", "latestKind", "I", false)
def tyX4 : Nat → FieldType := fun k => match k with
  | 0 => .object "RollingSync$Side"
  | 1 => .object "RollingSync$Side"
  | 2 => .object "RollingSync$Line"
  | 3 => .object "RollingSync$Sender"
  | 4 => .object "RollingSync$Receiver"
  | 5 => .object "RollingSync$Message"
  | 6 => .int
  | 7 => .int
  | 8 => .boolean
  | 9 => .int
  | 10 => .int
  | 11 => .int
  | 12 => .int
  | 13 => .int
  | _ => .int
theorem nmX4 : ∀ a, a < 15 → ∀ b, b < 15 → a ≠ b → (TX4 a).2.1 ≠ (TX4 b).2.1 := by decide +kernel
theorem tyX4_ok : ∀ k, k < 15 → parseFieldDescriptor (TX4 k).2.2.1 = some (tyX4 k) := by decide +kernel
abbrev cX4_init : ByteArray := prog_6_method_1_code
def yX4_init : MethodName := ⟨RX4, "<init>", "(LRollingSync$Side;LRollingSync$Side;LRollingSync$Line;)V"⟩
abbrev cX4_goes : ByteArray := prog_6_method_2_code
def yX4_goes : MethodName := ⟨RX4, "goes", "()Z"⟩
abbrev cX4_start : ByteArray := prog_6_method_3_code
def yX4_start : MethodName := ⟨RX4, "start", "(IIII)V"⟩
abbrev cX4_stop : ByteArray := prog_6_method_4_code
def yX4_stop : MethodName := ⟨RX4, "stop", "()I"⟩
abbrev cX4_oneStep : ByteArray := prog_6_method_5_code
def yX4_oneStep : MethodName := ⟨RX4, "oneStep", "()V"⟩
abbrev cX4_tell : ByteArray := prog_6_method_6_code
def yX4_tell : MethodName := ⟨RX4, "tell", "(I)I"⟩
abbrev cX4_builtByte : ByteArray := prog_6_method_7_code
def yX4_builtByte : MethodName := ⟨RX4, "builtByte", "(I)I"⟩
abbrev cX4_sumOf : ByteArray := prog_6_method_8_code
def yX4_sumOf : MethodName := ⟨RX4, "sumOf", "(II)J"⟩
abbrev cX4_makeMessage : ByteArray := prog_6_method_9_code
def yX4_makeMessage : MethodName := ⟨RX4, "makeMessage", "()V"⟩
abbrev cX4_emit : ByteArray := prog_6_method_10_code
def yX4_emit : MethodName := ⟨RX4, "emit", "()V"⟩
abbrev cX4_takeMessage : ByteArray := prog_6_method_11_code
def yX4_takeMessage : MethodName := ⟨RX4, "takeMessage", "()V"⟩
abbrev cX4_finishIfNothingFollows : ByteArray := prog_6_method_12_code
def yX4_finishIfNothingFollows : MethodName := ⟨RX4, "finishIfNothingFollows", "()V"⟩
def RX5 : String := "RollingSync$Sender"
def TX5 : u_T := fun k => match k with
  | 0 => ("RollingSync$Sender", "sums", "LRollingSync$Sums;", true)
  | 1 => ("RollingSync$Sender", "side", "LRollingSync$Side;", false)
  | 2 => ("RollingSync$Sender", "file", "I", false)
  | 3 => ("RollingSync$Sender", "place", "I", false)
  | 4 => ("RollingSync$Sender", "meets", "I", false)
  | _ => ("RollingSync$Sender", "falseMeets", "I", false)
def tyX5 : Nat → FieldType := fun k => match k with
  | 0 => .object "RollingSync$Sums"
  | 1 => .object "RollingSync$Side"
  | 2 => .int
  | 3 => .int
  | 4 => .int
  | _ => .int
theorem nmX5 : ∀ a, a < 6 → ∀ b, b < 6 → a ≠ b → (TX5 a).2.1 ≠ (TX5 b).2.1 := by decide +kernel
theorem tyX5_ok : ∀ k, k < 6 → parseFieldDescriptor (TX5 k).2.2.1 = some (tyX5 k) := by decide +kernel
abbrev cX5_init : ByteArray := prog_7_method_1_code
def yX5_init : MethodName := ⟨RX5, "<init>", "(LRollingSync$Side;)V"⟩
abbrev cX5_start : ByteArray := prog_7_method_2_code
def yX5_start : MethodName := ⟨RX5, "start", "(LRollingSync$Side;)V"⟩
abbrev cX5_takeSums : ByteArray := prog_7_method_3_code
def yX5_takeSums : MethodName := ⟨RX5, "takeSums", "(ILRollingSync$Sums;)V"⟩
abbrev cX5_makeNode : ByteArray := prog_7_method_4_code
def yX5_makeNode : MethodName := ⟨RX5, "makeNode", "(LRollingSync$Message;)V"⟩
abbrev cX5_makeNext : ByteArray := prog_7_method_5_code
def yX5_makeNext : MethodName := ⟨RX5, "makeNext", "(LRollingSync$Message;)V"⟩
abbrev cX5_makePart : ByteArray := prog_7_method_6_code
def yX5_makePart : MethodName := ⟨RX5, "makePart", "(LRollingSync$Message;LRollingSync$Row;)V"⟩
abbrev cX5_look : ByteArray := prog_7_method_7_code
def yX5_look : MethodName := ⟨RX5, "look", "(LRollingSync$Row;)I"⟩
def RX6 : String := "RollingSync$Side"
def TX6 : u_T := fun k => match k with
  | 0 => ("RollingSync$Side", "rows", "[LRollingSync$Row;", true)
  | 1 => ("RollingSync$Side", "present", "[Z", true)
  | _ => ("RollingSync$Side", "nodes", "[J", true)
def tyX6 : Nat → FieldType := fun k => match k with
  | 0 => .array (.object "RollingSync$Row")
  | 1 => .array .boolean
  | _ => .array .long
theorem nmX6 : ∀ a, a < 3 → ∀ b, b < 3 → a ≠ b → (TX6 a).2.1 ≠ (TX6 b).2.1 := by decide +kernel
theorem tyX6_ok : ∀ k, k < 3 → parseFieldDescriptor (TX6 k).2.2.1 = some (tyX6 k) := by decide +kernel
abbrev cX6_init : ByteArray := prog_8_method_1_code
def yX6_init : MethodName := ⟨RX6, "<init>", "()V"⟩
abbrev cX6_existing : ByteArray := prog_8_method_2_code
def yX6_existing : MethodName := ⟨RX6, "existing", "(I)LRollingSync$Row;"⟩
abbrev cX6_countOf : ByteArray := prog_8_method_3_code
def yX6_countOf : MethodName := ⟨RX6, "countOf", "(I)I"⟩
abbrev cX6_digestAt : ByteArray := prog_8_method_4_code
def yX6_digestAt : MethodName := ⟨RX6, "digestAt", "(I)J"⟩
abbrev cX6_put : ByteArray := prog_8_method_5_code
def yX6_put : MethodName := ⟨RX6, "put", "(IIJI)V"⟩
abbrev cX6_replace : ByteArray := prog_8_method_6_code
def yX6_replace : MethodName := ⟨RX6, "replace", "(ILRollingSync$Row;)V"⟩
abbrev cX6_remove : ByteArray := prog_8_method_7_code
def yX6_remove : MethodName := ⟨RX6, "remove", "(I)V"⟩
abbrev cX6_refresh : ByteArray := prog_8_method_8_code
def yX6_refresh : MethodName := ⟨RX6, "refresh", "(I)V"⟩
abbrev cX6_mixed : ByteArray := prog_8_method_9_code
def yX6_mixed : MethodName := ⟨RX6, "mixed", "(JJ)J"⟩
def RX7 : String := "RollingSync$Sums"
def TX7 : u_T := fun k => match k with
  | 0 => ("RollingSync$Sums", "weaks", "[J", true)
  | 1 => ("RollingSync$Sums", "strongs", "[J", true)
  | 2 => ("RollingSync$Sums", "count", "I", false)
  | 3 => ("RollingSync$Sums", "block", "I", false)
  | _ => ("RollingSync$Sums", "k", "I", false)
def tyX7 : Nat → FieldType := fun k => match k with
  | 0 => .array .long
  | 1 => .array .long
  | 2 => .int
  | 3 => .int
  | _ => .int
theorem nmX7 : ∀ a, a < 5 → ∀ b, b < 5 → a ≠ b → (TX7 a).2.1 ≠ (TX7 b).2.1 := by decide +kernel
theorem tyX7_ok : ∀ k, k < 5 → parseFieldDescriptor (TX7 k).2.2.1 = some (tyX7 k) := by decide +kernel
abbrev cX7_init : ByteArray := prog_9_method_1_code
def yX7_init : MethodName := ⟨RX7, "<init>", "()V"⟩
abbrev cX7_count : ByteArray := prog_9_method_2_code
def yX7_count : MethodName := ⟨RX7, "count", "()I"⟩
abbrev cX7_block : ByteArray := prog_9_method_3_code
def yX7_block : MethodName := ⟨RX7, "block", "()I"⟩
abbrev cX7_k : ByteArray := prog_9_method_4_code
def yX7_k : MethodName := ⟨RX7, "k", "()I"⟩
abbrev cX7_fill : ByteArray := prog_9_method_5_code
def yX7_fill : MethodName := ⟨RX7, "fill", "(LRollingSync$Row;II)V"⟩
abbrev cX7_copyFrom : ByteArray := prog_9_method_6_code
def yX7_copyFrom : MethodName := ⟨RX7, "copyFrom", "(LRollingSync$Sums;)V"⟩
abbrev cX7_sumOf : ByteArray := prog_9_method_7_code
def yX7_sumOf : MethodName := ⟨RX7, "sumOf", "(II)J"⟩
abbrev cX7_hasWeak : ByteArray := prog_9_method_8_code
def yX7_hasWeak : MethodName := ⟨RX7, "hasWeak", "(J)Z"⟩
abbrev cX7_find : ByteArray := prog_9_method_9_code
def yX7_find : MethodName := ⟨RX7, "find", "(JJ)I"⟩
def RX8 : String := "RollingSync"
def TX8 : u_T := fun k => match k with
  | 0 => ("RollingSync", "zero", "LRollingSync$Side;", true)
  | 1 => ("RollingSync", "one", "LRollingSync$Side;", true)
  | 2 => ("RollingSync", "line", "LRollingSync$Line;", true)
  | _ => ("RollingSync", "run", "LRollingSync$Run;", true)
def tyX8 : Nat → FieldType := fun k => match k with
  | 0 => .object "RollingSync$Side"
  | 1 => .object "RollingSync$Side"
  | 2 => .object "RollingSync$Line"
  | _ => .object "RollingSync$Run"
theorem nmX8 : ∀ a, a < 4 → ∀ b, b < 4 → a ≠ b → (TX8 a).2.1 ≠ (TX8 b).2.1 := by decide +kernel
theorem tyX8_ok : ∀ k, k < 4 → parseFieldDescriptor (TX8 k).2.2.1 = some (tyX8 k) := by decide +kernel
abbrev cX8_init : ByteArray := prog_1_method_1_code
def yX8_init : MethodName := ⟨RX8, "<init>", "()V"⟩
abbrev cX8_write : ByteArray := prog_1_method_2_code
def yX8_write : MethodName := ⟨RX8, "write", "(IIIJI)I"⟩
abbrev cX8_again : ByteArray := prog_1_method_3_code
def yX8_again : MethodName := ⟨RX8, "again", "(IIII)I"⟩
abbrev cX8_trim : ByteArray := prog_1_method_4_code
def yX8_trim : MethodName := ⟨RX8, "trim", "(III)I"⟩
abbrev cX8_drop : ByteArray := prog_1_method_5_code
def yX8_drop : MethodName := ⟨RX8, "drop", "(II)I"⟩
abbrev cX8_same : ByteArray := prog_1_method_6_code
def yX8_same : MethodName := ⟨RX8, "same", "(II)I"⟩
abbrev cX8_at : ByteArray := prog_1_method_7_code
def yX8_at : MethodName := ⟨RX8, "at", "(III)I"⟩
abbrev cX8_size : ByteArray := prog_1_method_8_code
def yX8_size : MethodName := ⟨RX8, "size", "(II)I"⟩
abbrev cX8_node : ByteArray := prog_1_method_9_code
def yX8_node : MethodName := ⟨RX8, "node", "(II)J"⟩
abbrev cX8_begin : ByteArray := prog_1_method_10_code
def yX8_begin : MethodName := ⟨RX8, "begin", "(IIII)I"⟩
abbrev cX8_step : ByteArray := prog_1_method_11_code
def yX8_step : MethodName := ⟨RX8, "step", "(I)I"⟩
abbrev cX8_lose : ByteArray := prog_1_method_12_code
def yX8_lose : MethodName := ⟨RX8, "lose", "(I)I"⟩
abbrev cX8_cut : ByteArray := prog_1_method_13_code
def yX8_cut : MethodName := ⟨RX8, "cut", "()I"⟩
abbrev cX8_state : ByteArray := prog_1_method_14_code
def yX8_state : MethodName := ⟨RX8, "state", "(I)I"⟩
abbrev cX8_sent : ByteArray := prog_1_method_15_code
def yX8_sent : MethodName := ⟨RX8, "sent", "(I)J"⟩
abbrev cX8_built : ByteArray := prog_1_method_16_code
def yX8_built : MethodName := ⟨RX8, "built", "(I)I"⟩
abbrev cX8_sums : ByteArray := prog_1_method_17_code
def yX8_sums : MethodName := ⟨RX8, "sums", "(II)J"⟩
abbrev cX8_weak : ByteArray := prog_1_method_18_code
def yX8_weak : MethodName := ⟨RX8, "weak", "(IIII)J"⟩
abbrev cX8_isEnd : ByteArray := prog_1_method_19_code
def yX8_isEnd : MethodName := ⟨RX8, "isEnd", "(I)Z"⟩
abbrev cX8_isFile : ByteArray := prog_1_method_20_code
def yX8_isFile : MethodName := ⟨RX8, "isFile", "(I)Z"⟩
abbrev cX8_strong : ByteArray := prog_1_method_21_code
def yX8_strong : MethodName := ⟨RX8, "strong", "(JI)J"⟩
abbrev cX8_side : ByteArray := prog_1_method_22_code
def yX8_side : MethodName := ⟨RX8, "side", "(I)LRollingSync$Side;"⟩
abbrev cX8_existing : ByteArray := prog_1_method_23_code
def yX8_existing : MethodName := ⟨RX8, "existing", "(II)LRollingSync$Row;"⟩
def RX9 : String := "RollingSyncModel"
def TX9 : u_T := fun k => match k with
  | 0 => ("RollingSyncModel", "bytes", "[B", true)
  | 1 => ("RollingSyncModel", "sizes", "[I", true)
  | 2 => ("RollingSyncModel", "pair", "[B", true)
  | 3 => ("RollingSyncModel", "nodes", "[J", true)
  | 4 => ("RollingSyncModel", "is", "I", false)
  | 5 => ("RollingSyncModel", "source", "I", false)
  | 6 => ("RollingSyncModel", "block", "I", false)
  | 7 => ("RollingSyncModel", "firstK", "I", false)
  | 8 => ("RollingSyncModel", "rule", "I", false)
  | 9 => ("RollingSyncModel", "counts", "[I", true)
  | 10 => ("RollingSyncModel", "sent", "[J", true)
  | 11 => ("RollingSyncModel", "waiting", "[I", true)
  | 12 => ("RollingSyncModel", "waits", "I", false)
  | 13 => ("RollingSyncModel", "toDo", "[Z", true)
  | 14 => ("RollingSyncModel", "goes", "[Z", true)
  | 15 => ("RollingSyncModel", "due", "I", false)
  | 16 => ("RollingSyncModel", "file", "I", false)
  | 17 => ("RollingSyncModel", "tries", "I", false)
  | 18 => ("RollingSyncModel", "k", "I", false)
  | 19 => ("RollingSyncModel", "place", "I", false)
  | 20 => ("RollingSyncModel", "isBegun", "Z", false)
  | 21 => ("RollingSyncModel", "isDone", "Z", false)
  | 22 => ("RollingSyncModel", "built", "[B", true)
  | 23 => ("RollingSyncModel", "builtSize", "I", false)
  | 24 => ("RollingSyncModel", "sender", "I", false)
  | 25 => ("RollingSyncModel", "kind", "I", false)
  | 26 => ("RollingSyncModel", "size", "I", false)
  | 27 => ("RollingSyncModel", "what", "I", false)
  | 28 => ("RollingSyncModel", "number", "J", false)
  | 29 => ("RollingSyncModel", "load", "[B", true)
  | 30 => ("RollingSyncModel", "loads", "I", false)
  | 31 => ("RollingSyncModel", "isLost", "Z", false)
  | 32 => ("RollingSyncModel", "pause", "I", false)
  | 33 => ("RollingSyncModel", "weaks", "[J", true)
  | 34 => ("RollingSyncModel", "strongs", "[J", true)
  | 35 => ("RollingSyncModel", "blocks", "I", false)
  | 36 => ("RollingSyncModel", "weaksCame", "[J", true)
  | 37 => ("RollingSyncModel", "strongsCame", "[J", true)
  | 38 => ("RollingSyncModel", "blocksCame", "I", false)
  | 39 => ("RollingSyncModel", "kCame", "I", false)
  | 40 => ("RollingSyncModel", "losing", "[I", true)
  | _ => ("RollingSyncModel", "losings", "I", false)
def tyX9 : Nat → FieldType := fun k => match k with
  | 0 => .array .byte
  | 1 => .array .int
  | 2 => .array .byte
  | 3 => .array .long
  | 4 => .int
  | 5 => .int
  | 6 => .int
  | 7 => .int
  | 8 => .int
  | 9 => .array .int
  | 10 => .array .long
  | 11 => .array .int
  | 12 => .int
  | 13 => .array .boolean
  | 14 => .array .boolean
  | 15 => .int
  | 16 => .int
  | 17 => .int
  | 18 => .int
  | 19 => .int
  | 20 => .boolean
  | 21 => .boolean
  | 22 => .array .byte
  | 23 => .int
  | 24 => .int
  | 25 => .int
  | 26 => .int
  | 27 => .int
  | 28 => .long
  | 29 => .array .byte
  | 30 => .int
  | 31 => .boolean
  | 32 => .int
  | 33 => .array .long
  | 34 => .array .long
  | 35 => .int
  | 36 => .array .long
  | 37 => .array .long
  | 38 => .int
  | 39 => .int
  | 40 => .array .int
  | _ => .int
theorem nmX9 : ∀ a, a < 42 → ∀ b, b < 42 → a ≠ b → (TX9 a).2.1 ≠ (TX9 b).2.1 := by decide +kernel
theorem tyX9_ok : ∀ k, k < 42 → parseFieldDescriptor (TX9 k).2.2.1 = some (tyX9 k) := by decide +kernel
abbrev cX9_init : ByteArray := prog_11_method_1_code
def yX9_init : MethodName := ⟨RX9, "<init>", "()V"⟩
abbrev cX9_greater : ByteArray := prog_11_method_2_code
def yX9_greater : MethodName := ⟨RX9, "greater", "(II)I"⟩
abbrev cX9_lesser : ByteArray := prog_11_method_3_code
def yX9_lesser : MethodName := ⟨RX9, "lesser", "(II)I"⟩
abbrev cX9_isFile : ByteArray := prog_11_method_4_code
def yX9_isFile : MethodName := ⟨RX9, "isFile", "(II)Z"⟩
abbrev cX9_sizeOf : ByteArray := prog_11_method_5_code
def yX9_sizeOf : MethodName := ⟨RX9, "sizeOf", "(I)I"⟩
abbrev cX9_write : ByteArray := prog_11_method_6_code
def yX9_write : MethodName := ⟨RX9, "write", "(IIIJI)I"⟩
abbrev cX9_again : ByteArray := prog_11_method_7_code
def yX9_again : MethodName := ⟨RX9, "again", "(IIII)I"⟩
abbrev cX9_trim : ByteArray := prog_11_method_8_code
def yX9_trim : MethodName := ⟨RX9, "trim", "(III)I"⟩
abbrev cX9_drop : ByteArray := prog_11_method_9_code
def yX9_drop : MethodName := ⟨RX9, "drop", "(II)I"⟩
abbrev cX9_same : ByteArray := prog_11_method_10_code
def yX9_same : MethodName := ⟨RX9, "same", "(II)I"⟩
abbrev cX9_at : ByteArray := prog_11_method_11_code
def yX9_at : MethodName := ⟨RX9, "at", "(III)I"⟩
abbrev cX9_size : ByteArray := prog_11_method_12_code
def yX9_size : MethodName := ⟨RX9, "size", "(II)I"⟩
abbrev cX9_digest : ByteArray := prog_11_method_13_code
def yX9_digest : MethodName := ⟨RX9, "digest", "([BII)J"⟩
abbrev cX9_strong : ByteArray := prog_11_method_14_code
def yX9_strong : MethodName := ⟨RX9, "strong", "([BIII)J"⟩
abbrev cX9_weakOf : ByteArray := prog_11_method_15_code
def yX9_weakOf : MethodName := ⟨RX9, "weakOf", "([BII)J"⟩
abbrev cX9_weak : ByteArray := prog_11_method_16_code
def yX9_weak : MethodName := ⟨RX9, "weak", "(IIII)J"⟩
abbrev cX9_node : ByteArray := prog_11_method_17_code
def yX9_node : MethodName := ⟨RX9, "node", "(II)J"⟩
abbrev cX9_target : ByteArray := prog_11_method_18_code
def yX9_target : MethodName := ⟨RX9, "target", "()I"⟩
abbrev cX9_begin : ByteArray := prog_11_method_19_code
def yX9_begin : MethodName := ⟨RX9, "begin", "(IIII)I"⟩
abbrev cX9_step : ByteArray := prog_11_method_20_code
def yX9_step : MethodName := ⟨RX9, "step", "(I)I"⟩
abbrev cX9_steps : ByteArray := prog_11_method_21_code
def yX9_steps : MethodName := ⟨RX9, "steps", "()V"⟩
abbrev cX9_ends : ByteArray := prog_11_method_22_code
def yX9_ends : MethodName := ⟨RX9, "ends", "()V"⟩
abbrev cX9_isToLose : ByteArray := prog_11_method_23_code
def yX9_isToLose : MethodName := ⟨RX9, "isToLose", "()Z"⟩
abbrev cX9_leastToDo : ByteArray := prog_11_method_24_code
def yX9_leastToDo : MethodName := ⟨RX9, "leastToDo", "()I"⟩
abbrev cX9_message : ByteArray := prog_11_method_25_code
def yX9_message : MethodName := ⟨RX9, "message", "(III)V"⟩
abbrev cX9_makes : ByteArray := prog_11_method_26_code
def yX9_makes : MethodName := ⟨RX9, "makes", "()V"⟩
abbrev cX9_makesSums : ByteArray := prog_11_method_27_code
def yX9_makesSums : MethodName := ⟨RX9, "makesSums", "()V"⟩
abbrev cX9_makesOfFile : ByteArray := prog_11_method_28_code
def yX9_makesOfFile : MethodName := ⟨RX9, "makesOfFile", "()V"⟩
abbrev cX9_look : ByteArray := prog_11_method_29_code
def yX9_look : MethodName := ⟨RX9, "look", "(I)I"⟩
abbrev cX9_comes : ByteArray := prog_11_method_30_code
def yX9_comes : MethodName := ⟨RX9, "comes", "()V"⟩
abbrev cX9_builds : ByteArray := prog_11_method_31_code
def yX9_builds : MethodName := ⟨RX9, "builds", "(B)V"⟩
abbrev cX9_nodeComes : ByteArray := prog_11_method_32_code
def yX9_nodeComes : MethodName := ⟨RX9, "nodeComes", "()V"⟩
abbrev cX9_sumsCome : ByteArray := prog_11_method_33_code
def yX9_sumsCome : MethodName := ⟨RX9, "sumsCome", "()V"⟩
abbrev cX9_endComes : ByteArray := prog_11_method_34_code
def yX9_endComes : MethodName := ⟨RX9, "endComes", "()V"⟩
abbrev cX9_lose : ByteArray := prog_11_method_35_code
def yX9_lose : MethodName := ⟨RX9, "lose", "(I)I"⟩
abbrev cX9_cut : ByteArray := prog_11_method_36_code
def yX9_cut : MethodName := ⟨RX9, "cut", "()I"⟩
abbrev cX9_state : ByteArray := prog_11_method_37_code
def yX9_state : MethodName := ⟨RX9, "state", "(I)I"⟩
abbrev cX9_sent : ByteArray := prog_11_method_38_code
def yX9_sent : MethodName := ⟨RX9, "sent", "(I)J"⟩
abbrev cX9_built : ByteArray := prog_11_method_39_code
def yX9_built : MethodName := ⟨RX9, "built", "(I)I"⟩
abbrev cX9_sums : ByteArray := prog_11_method_40_code
def yX9_sums : MethodName := ⟨RX9, "sums", "(II)J"⟩
def RJ13 : String := "java/lang/Long"
abbrev cJ13_bitCount_95d88 : ByteArray := prog_12_method_50_code
def yJ13_bitCount_95d88 : MethodName := ⟨RJ13, "bitCount", "(J)I"⟩
def RJ9 : String := "java/lang/Math"
abbrev cJ9_max_7cf53 : ByteArray := prog_13_method_65_code
def yJ9_max_7cf53 : MethodName := ⟨RJ9, "max", "(II)I"⟩
abbrev cJ9_min_7cf53 : ByteArray := prog_13_method_69_code
def yJ9_min_7cf53 : MethodName := ⟨RJ9, "min", "(II)I"⟩
def RJ10 : String := "java/lang/System"
def RL : String := "RollingSyncLaw"
abbrev cL_law : ByteArray := code
def yL_law : MethodName := ⟨RL, "law", "([I)Z"⟩
abbrev vwCl : List vw_C := [(RX0, TX0, 3), (RX1, TX1, 6), (RX2, TX2, 17), (RX3, TX3, 2), (RX4, TX4, 15), (RX5, TX5, 6), (RX6, TX6, 3), (RX7, TX7, 5), (RX8, TX8, 4), (RX9, TX9, 42)]
end
section
theorem dX0_init_0 : decode cX0_init 0 = .ok (.aload_n 0, 1) := by decide +kernel
theorem dX0_init_1 : decode cX0_init 1 = .ok (.invokespecial 3, 3) := by decide +kernel
theorem dX0_init_4 : decode cX0_init 4 = .ok (.return_, 1) := by decide +kernel
theorem dX0_tellLoss_0 : decode cX0_tellLoss 0 = .ok (.lconst 1, 1) := by decide +kernel
theorem dX0_tellLoss_1 : decode cX0_tellLoss 1 = .ok (.iload_n 1, 1) := by decide +kernel
theorem dX0_tellLoss_2 : decode cX0_tellLoss 2 = .ok (.iconst 1, 1) := by decide +kernel
theorem dX0_tellLoss_3 : decode cX0_tellLoss 3 = .ok (.isub, 1) := by decide +kernel
theorem dX0_tellLoss_4 : decode cX0_tellLoss 4 = .ok (.lshl, 1) := by decide +kernel
theorem dX0_tellLoss_5 : decode cX0_tellLoss 5 = .ok (.lstore_n 2, 1) := by decide +kernel
theorem dX0_tellLoss_6 : decode cX0_tellLoss 6 = .ok (.aload_n 0, 1) := by decide +kernel
theorem dX0_tellLoss_7 : decode cX0_tellLoss 7 = .ok (.getfield 9, 3) := by decide +kernel
theorem dX0_tellLoss_10 : decode cX0_tellLoss 10 = .ok (.lload_n 2, 1) := by decide +kernel
theorem dX0_tellLoss_11 : decode cX0_tellLoss 11 = .ok (.land, 1) := by decide +kernel
theorem dX0_tellLoss_12 : decode cX0_tellLoss 12 = .ok (.lconst 0, 1) := by decide +kernel
theorem dX0_tellLoss_13 : decode cX0_tellLoss 13 = .ok (.lcmp, 1) := by decide +kernel
theorem dX0_tellLoss_14 : decode cX0_tellLoss 14 = .ok (.ifCond .eq 5, 3) := by decide +kernel
theorem dX0_tellLoss_17 : decode cX0_tellLoss 17 = .ok (.iconst (-1), 1) := by decide +kernel
theorem dX0_tellLoss_18 : decode cX0_tellLoss 18 = .ok (.ireturn, 1) := by decide +kernel
theorem dX0_tellLoss_19 : decode cX0_tellLoss 19 = .ok (.aload_n 0, 1) := by decide +kernel
theorem dX0_tellLoss_20 : decode cX0_tellLoss 20 = .ok (.getfield 9, 3) := by decide +kernel
theorem dX0_tellLoss_23 : decode cX0_tellLoss 23 = .ok (.invokestatic 15, 3) := by decide +kernel
theorem dX0_tellLoss_26 : decode cX0_tellLoss 26 = .ok (.bipush 8, 2) := by decide +kernel
theorem dX0_tellLoss_28 : decode cX0_tellLoss 28 = .ok (.if_icmp .lt 6, 3) := by decide +kernel
theorem dX0_tellLoss_31 : decode cX0_tellLoss 31 = .ok (.bipush (-3), 2) := by decide +kernel
theorem dX0_tellLoss_33 : decode cX0_tellLoss 33 = .ok (.ireturn, 1) := by decide +kernel
theorem dX0_tellLoss_34 : decode cX0_tellLoss 34 = .ok (.aload_n 0, 1) := by decide +kernel
theorem dX0_tellLoss_35 : decode cX0_tellLoss 35 = .ok (.dup, 1) := by decide +kernel
theorem dX0_tellLoss_36 : decode cX0_tellLoss 36 = .ok (.getfield 9, 3) := by decide +kernel
theorem dX0_tellLoss_39 : decode cX0_tellLoss 39 = .ok (.lload_n 2, 1) := by decide +kernel
theorem dX0_tellLoss_40 : decode cX0_tellLoss 40 = .ok (.lor, 1) := by decide +kernel
theorem dX0_tellLoss_41 : decode cX0_tellLoss 41 = .ok (.putfield 9, 3) := by decide +kernel
theorem dX0_tellLoss_44 : decode cX0_tellLoss 44 = .ok (.aload_n 0, 1) := by decide +kernel
theorem dX0_tellLoss_45 : decode cX0_tellLoss 45 = .ok (.getfield 9, 3) := by decide +kernel
theorem dX0_tellLoss_48 : decode cX0_tellLoss 48 = .ok (.invokestatic 15, 3) := by decide +kernel
theorem dX0_tellLoss_51 : decode cX0_tellLoss 51 = .ok (.ireturn, 1) := by decide +kernel
theorem dX0_bytesBy_0 : decode cX0_bytesBy 0 = .ok (.iload_n 1, 1) := by decide +kernel
theorem dX0_bytesBy_1 : decode cX0_bytesBy 1 = .ok (.ifCond .ne 10, 3) := by decide +kernel
theorem dX0_bytesBy_4 : decode cX0_bytesBy 4 = .ok (.aload_n 0, 1) := by decide +kernel
theorem dX0_bytesBy_5 : decode cX0_bytesBy 5 = .ok (.getfield 21, 3) := by decide +kernel
theorem dX0_bytesBy_8 : decode cX0_bytesBy 8 = .ok (.goto 7, 3) := by decide +kernel
theorem dX0_bytesBy_11 : decode cX0_bytesBy 11 = .ok (.aload_n 0, 1) := by decide +kernel
theorem dX0_bytesBy_12 : decode cX0_bytesBy 12 = .ok (.getfield 24, 3) := by decide +kernel
theorem dX0_bytesBy_15 : decode cX0_bytesBy 15 = .ok (.lreturn, 1) := by decide +kernel
theorem dX0_carry_0 : decode cX0_carry 0 = .ok (.iload_n 1, 1) := by decide +kernel
theorem dX0_carry_1 : decode cX0_carry 1 = .ok (.ifCond .ne 17, 3) := by decide +kernel
theorem dX0_carry_4 : decode cX0_carry 4 = .ok (.aload_n 0, 1) := by decide +kernel
theorem dX0_carry_5 : decode cX0_carry 5 = .ok (.dup, 1) := by decide +kernel
theorem dX0_carry_6 : decode cX0_carry 6 = .ok (.getfield 21, 3) := by decide +kernel
theorem dX0_carry_9 : decode cX0_carry 9 = .ok (.iload_n 2, 1) := by decide +kernel
theorem dX0_carry_10 : decode cX0_carry 10 = .ok (.i2l, 1) := by decide +kernel
theorem dX0_carry_11 : decode cX0_carry 11 = .ok (.ladd, 1) := by decide +kernel
theorem dX0_carry_12 : decode cX0_carry 12 = .ok (.putfield 21, 3) := by decide +kernel
theorem dX0_carry_15 : decode cX0_carry 15 = .ok (.goto 14, 3) := by decide +kernel
theorem dX0_carry_18 : decode cX0_carry 18 = .ok (.aload_n 0, 1) := by decide +kernel
theorem dX0_carry_19 : decode cX0_carry 19 = .ok (.dup, 1) := by decide +kernel
theorem dX0_carry_20 : decode cX0_carry 20 = .ok (.getfield 24, 3) := by decide +kernel
theorem dX0_carry_23 : decode cX0_carry 23 = .ok (.iload_n 2, 1) := by decide +kernel
theorem dX0_carry_24 : decode cX0_carry 24 = .ok (.i2l, 1) := by decide +kernel
theorem dX0_carry_25 : decode cX0_carry 25 = .ok (.ladd, 1) := by decide +kernel
theorem dX0_carry_26 : decode cX0_carry 26 = .ok (.putfield 24, 3) := by decide +kernel
theorem dX0_carry_29 : decode cX0_carry 29 = .ok (.aload_n 0, 1) := by decide +kernel
theorem dX0_carry_30 : decode cX0_carry 30 = .ok (.getfield 9, 3) := by decide +kernel
theorem dX0_carry_33 : decode cX0_carry 33 = .ok (.lconst 1, 1) := by decide +kernel
theorem dX0_carry_34 : decode cX0_carry 34 = .ok (.land, 1) := by decide +kernel
theorem dX0_carry_35 : decode cX0_carry 35 = .ok (.lconst 0, 1) := by decide +kernel
theorem dX0_carry_36 : decode cX0_carry 36 = .ok (.lcmp, 1) := by decide +kernel
theorem dX0_carry_37 : decode cX0_carry 37 = .ok (.ifCond .ne 7, 3) := by decide +kernel
theorem dX0_carry_40 : decode cX0_carry 40 = .ok (.iconst 1, 1) := by decide +kernel
theorem dX0_carry_41 : decode cX0_carry 41 = .ok (.goto 4, 3) := by decide +kernel
theorem dX0_carry_44 : decode cX0_carry 44 = .ok (.iconst 0, 1) := by decide +kernel
theorem dX0_carry_45 : decode cX0_carry 45 = .ok (.istore_n 3, 1) := by decide +kernel
theorem dX0_carry_46 : decode cX0_carry 46 = .ok (.aload_n 0, 1) := by decide +kernel
theorem dX0_carry_47 : decode cX0_carry 47 = .ok (.dup, 1) := by decide +kernel
theorem dX0_carry_48 : decode cX0_carry 48 = .ok (.getfield 9, 3) := by decide +kernel
theorem dX0_carry_51 : decode cX0_carry 51 = .ok (.iconst 1, 1) := by decide +kernel
theorem dX0_carry_52 : decode cX0_carry 52 = .ok (.lushr, 1) := by decide +kernel
theorem dX0_carry_53 : decode cX0_carry 53 = .ok (.putfield 9, 3) := by decide +kernel
theorem dX0_carry_56 : decode cX0_carry 56 = .ok (.iload_n 3, 1) := by decide +kernel
theorem dX0_carry_57 : decode cX0_carry 57 = .ok (.ireturn, 1) := by decide +kernel
theorem dX1_init_0 : decode cX1_init 0 = .ok (.aload_n 0, 1) := by decide +kernel
theorem dX1_init_1 : decode cX1_init 1 = .ok (.invokespecial 3, 3) := by decide +kernel
theorem dX1_init_4 : decode cX1_init 4 = .ok (.aload_n 0, 1) := by decide +kernel
theorem dX1_init_5 : decode cX1_init 5 = .ok (.new 9, 3) := by decide +kernel
theorem dX1_init_8 : decode cX1_init 8 = .ok (.dup, 1) := by decide +kernel
theorem dX1_init_9 : decode cX1_init 9 = .ok (.bipush 16, 2) := by decide +kernel
theorem dX1_init_11 : decode cX1_init 11 = .ok (.invokespecial 11, 3) := by decide +kernel
theorem dX1_init_14 : decode cX1_init 14 = .ok (.putfield 14, 3) := by decide +kernel
theorem dX1_init_17 : decode cX1_init 17 = .ok (.aload_n 0, 1) := by decide +kernel
theorem dX1_init_18 : decode cX1_init 18 = .ok (.new 20, 3) := by decide +kernel
theorem dX1_init_21 : decode cX1_init 21 = .ok (.dup, 1) := by decide +kernel
theorem dX1_init_22 : decode cX1_init 22 = .ok (.invokespecial 22, 3) := by decide +kernel
theorem dX1_init_25 : decode cX1_init 25 = .ok (.putfield 23, 3) := by decide +kernel
theorem dX1_init_28 : decode cX1_init 28 = .ok (.aload_n 0, 1) := by decide +kernel
theorem dX1_init_29 : decode cX1_init 29 = .ok (.bipush (-2), 2) := by decide +kernel
theorem dX1_init_31 : decode cX1_init 31 = .ok (.putfield 27, 3) := by decide +kernel
theorem dX1_init_34 : decode cX1_init 34 = .ok (.return_, 1) := by decide +kernel
theorem dX1_become_0 : decode cX1_become 0 = .ok (.aload_n 0, 1) := by decide +kernel
theorem dX1_become_1 : decode cX1_become 1 = .ok (.iload_n 1, 1) := by decide +kernel
theorem dX1_become_2 : decode cX1_become 2 = .ok (.putfield 27, 3) := by decide +kernel
theorem dX1_become_5 : decode cX1_become 5 = .ok (.aload_n 0, 1) := by decide +kernel
theorem dX1_become_6 : decode cX1_become 6 = .ok (.iload_n 2, 1) := by decide +kernel
theorem dX1_become_7 : decode cX1_become 7 = .ok (.putfield 31, 3) := by decide +kernel
theorem dX1_become_10 : decode cX1_become 10 = .ok (.return_, 1) := by decide +kernel
theorem dX1_isByTarget_0 : decode cX1_isByTarget 0 = .ok (.aload_n 0, 1) := by decide +kernel
theorem dX1_isByTarget_1 : decode cX1_isByTarget 1 = .ok (.getfield 27, 3) := by decide +kernel
theorem dX1_isByTarget_4 : decode cX1_isByTarget 4 = .ok (.ifCond .eq 20, 3) := by decide +kernel
theorem dX1_isByTarget_7 : decode cX1_isByTarget 7 = .ok (.aload_n 0, 1) := by decide +kernel
theorem dX1_isByTarget_8 : decode cX1_isByTarget 8 = .ok (.getfield 27, 3) := by decide +kernel
theorem dX1_isByTarget_11 : decode cX1_isByTarget 11 = .ok (.iconst 2, 1) := by decide +kernel
theorem dX1_isByTarget_12 : decode cX1_isByTarget 12 = .ok (.if_icmp .eq 12, 3) := by decide +kernel
theorem dX1_isByTarget_15 : decode cX1_isByTarget 15 = .ok (.aload_n 0, 1) := by decide +kernel
theorem dX1_isByTarget_16 : decode cX1_isByTarget 16 = .ok (.getfield 27, 3) := by decide +kernel
theorem dX1_isByTarget_19 : decode cX1_isByTarget 19 = .ok (.bipush 7, 2) := by decide +kernel
theorem dX1_isByTarget_21 : decode cX1_isByTarget 21 = .ok (.if_icmp .ne 7, 3) := by decide +kernel
theorem dX1_isByTarget_24 : decode cX1_isByTarget 24 = .ok (.iconst 1, 1) := by decide +kernel
theorem dX1_isByTarget_25 : decode cX1_isByTarget 25 = .ok (.goto 4, 3) := by decide +kernel
theorem dX1_isByTarget_28 : decode cX1_isByTarget 28 = .ok (.iconst 0, 1) := by decide +kernel
theorem dX1_isByTarget_29 : decode cX1_isByTarget 29 = .ok (.ireturn, 1) := by decide +kernel
theorem dX2_init_0 : decode cX2_init 0 = .ok (.aload_n 0, 1) := by decide +kernel
theorem dX2_init_1 : decode cX2_init 1 = .ok (.invokespecial 3, 3) := by decide +kernel
theorem dX2_init_4 : decode cX2_init 4 = .ok (.aload_n 0, 1) := by decide +kernel
theorem dX2_init_5 : decode cX2_init 5 = .ok (.bipush 16, 2) := by decide +kernel
theorem dX2_init_7 : decode cX2_init 7 = .ok (.newarray .int, 2) := by decide +kernel
theorem dX2_init_9 : decode cX2_init 9 = .ok (.putfield 9, 3) := by decide +kernel
theorem dX2_init_12 : decode cX2_init 12 = .ok (.aload_n 0, 1) := by decide +kernel
theorem dX2_init_13 : decode cX2_init 13 = .ok (.bipush 8, 2) := by decide +kernel
theorem dX2_init_15 : decode cX2_init 15 = .ok (.newarray .boolean, 2) := by decide +kernel
theorem dX2_init_17 : decode cX2_init 17 = .ok (.putfield 15, 3) := by decide +kernel
theorem dX2_init_20 : decode cX2_init 20 = .ok (.aload_n 0, 1) := by decide +kernel
theorem dX2_init_21 : decode cX2_init 21 = .ok (.bipush 8, 2) := by decide +kernel
theorem dX2_init_23 : decode cX2_init 23 = .ok (.newarray .boolean, 2) := by decide +kernel
theorem dX2_init_25 : decode cX2_init 25 = .ok (.putfield 19, 3) := by decide +kernel
theorem dX2_init_28 : decode cX2_init 28 = .ok (.aload_n 0, 1) := by decide +kernel
theorem dX2_init_29 : decode cX2_init 29 = .ok (.new 22, 3) := by decide +kernel
theorem dX2_init_32 : decode cX2_init 32 = .ok (.dup, 1) := by decide +kernel
theorem dX2_init_33 : decode cX2_init 33 = .ok (.sipush 500, 3) := by decide +kernel
theorem dX2_init_36 : decode cX2_init 36 = .ok (.invokespecial 24, 3) := by decide +kernel
theorem dX2_init_39 : decode cX2_init 39 = .ok (.putfield 27, 3) := by decide +kernel
theorem dX2_init_42 : decode cX2_init 42 = .ok (.aload_n 0, 1) := by decide +kernel
theorem dX2_init_43 : decode cX2_init 43 = .ok (.bipush (-2), 2) := by decide +kernel
theorem dX2_init_45 : decode cX2_init 45 = .ok (.putfield 31, 3) := by decide +kernel
theorem dX2_init_48 : decode cX2_init 48 = .ok (.aload_n 0, 1) := by decide +kernel
theorem dX2_init_49 : decode cX2_init 49 = .ok (.aload_n 1, 1) := by decide +kernel
theorem dX2_init_50 : decode cX2_init 50 = .ok (.putfield 35, 3) := by decide +kernel
theorem dX2_init_53 : decode cX2_init 53 = .ok (.return_, 1) := by decide +kernel
theorem dX2_start_0 : decode cX2_start 0 = .ok (.aload_n 0, 1) := by decide +kernel
theorem dX2_start_1 : decode cX2_start 1 = .ok (.aload_n 1, 1) := by decide +kernel
theorem dX2_start_2 : decode cX2_start 2 = .ok (.putfield 35, 3) := by decide +kernel
theorem dX2_start_5 : decode cX2_start 5 = .ok (.aload_n 0, 1) := by decide +kernel
theorem dX2_start_6 : decode cX2_start 6 = .ok (.iload_n 2, 1) := by decide +kernel
theorem dX2_start_7 : decode cX2_start 7 = .ok (.putfield 39, 3) := by decide +kernel
theorem dX2_start_10 : decode cX2_start 10 = .ok (.aload_n 0, 1) := by decide +kernel
theorem dX2_start_11 : decode cX2_start 11 = .ok (.iload_n 3, 1) := by decide +kernel
theorem dX2_start_12 : decode cX2_start 12 = .ok (.putfield 42, 3) := by decide +kernel
theorem dX2_start_15 : decode cX2_start 15 = .ok (.aload_n 0, 1) := by decide +kernel
theorem dX2_start_16 : decode cX2_start 16 = .ok (.iload 4, 2) := by decide +kernel
theorem dX2_start_18 : decode cX2_start 18 = .ok (.putfield 45, 3) := by decide +kernel
theorem dX2_start_21 : decode cX2_start 21 = .ok (.iconst 0, 1) := by decide +kernel
theorem dX2_start_22 : decode cX2_start 22 = .ok (.istore 5, 2) := by decide +kernel
theorem dX2_start_24 : decode cX2_start 24 = .ok (.iload 5, 2) := by decide +kernel
theorem dX2_start_26 : decode cX2_start 26 = .ok (.bipush 8, 2) := by decide +kernel
theorem dX2_start_28 : decode cX2_start 28 = .ok (.if_icmp .ge 25, 3) := by decide +kernel
theorem dX2_start_31 : decode cX2_start 31 = .ok (.aload_n 0, 1) := by decide +kernel
theorem dX2_start_32 : decode cX2_start 32 = .ok (.getfield 15, 3) := by decide +kernel
theorem dX2_start_35 : decode cX2_start 35 = .ok (.iload 5, 2) := by decide +kernel
theorem dX2_start_37 : decode cX2_start 37 = .ok (.iconst 0, 1) := by decide +kernel
theorem dX2_start_38 : decode cX2_start 38 = .ok (.bastore, 1) := by decide +kernel
theorem dX2_start_39 : decode cX2_start 39 = .ok (.aload_n 0, 1) := by decide +kernel
theorem dX2_start_40 : decode cX2_start 40 = .ok (.getfield 19, 3) := by decide +kernel
theorem dX2_start_43 : decode cX2_start 43 = .ok (.iload 5, 2) := by decide +kernel
theorem dX2_start_45 : decode cX2_start 45 = .ok (.iconst 0, 1) := by decide +kernel
theorem dX2_start_46 : decode cX2_start 46 = .ok (.bastore, 1) := by decide +kernel
theorem dX2_start_47 : decode cX2_start 47 = .ok (.iinc 5 1, 3) := by decide +kernel
theorem dX2_start_50 : decode cX2_start 50 = .ok (.goto (-26), 3) := by decide +kernel
theorem dX2_start_53 : decode cX2_start 53 = .ok (.aload_n 0, 1) := by decide +kernel
theorem dX2_start_54 : decode cX2_start 54 = .ok (.iconst 0, 1) := by decide +kernel
theorem dX2_start_55 : decode cX2_start 55 = .ok (.putfield 48, 3) := by decide +kernel
theorem dX2_start_58 : decode cX2_start 58 = .ok (.aload_n 0, 1) := by decide +kernel
theorem dX2_start_59 : decode cX2_start 59 = .ok (.iconst 1, 1) := by decide +kernel
theorem dX2_start_60 : decode cX2_start 60 = .ok (.invokevirtual 51, 3) := by decide +kernel
theorem dX2_start_63 : decode cX2_start 63 = .ok (.aload_n 0, 1) := by decide +kernel
theorem dX2_start_64 : decode cX2_start 64 = .ok (.invokevirtual 54, 3) := by decide +kernel
theorem dX2_start_67 : decode cX2_start 67 = .ok (.aload_n 0, 1) := by decide +kernel
theorem dX2_start_68 : decode cX2_start 68 = .ok (.bipush (-2), 2) := by decide +kernel
theorem dX2_start_70 : decode cX2_start 70 = .ok (.putfield 31, 3) := by decide +kernel
theorem dX2_start_73 : decode cX2_start 73 = .ok (.aload_n 0, 1) := by decide +kernel
theorem dX2_start_74 : decode cX2_start 74 = .ok (.iconst 0, 1) := by decide +kernel
theorem dX2_start_75 : decode cX2_start 75 = .ok (.putfield 57, 3) := by decide +kernel
theorem dX2_start_78 : decode cX2_start 78 = .ok (.aload_n 0, 1) := by decide +kernel
theorem dX2_start_79 : decode cX2_start 79 = .ok (.iconst 0, 1) := by decide +kernel
theorem dX2_start_80 : decode cX2_start 80 = .ok (.putfield 60, 3) := by decide +kernel
theorem dX2_start_83 : decode cX2_start 83 = .ok (.aload_n 0, 1) := by decide +kernel
theorem dX2_start_84 : decode cX2_start 84 = .ok (.iconst 0, 1) := by decide +kernel
theorem dX2_start_85 : decode cX2_start 85 = .ok (.putfield 63, 3) := by decide +kernel
theorem dX2_start_88 : decode cX2_start 88 = .ok (.aload_n 0, 1) := by decide +kernel
theorem dX2_start_89 : decode cX2_start 89 = .ok (.iconst 0, 1) := by decide +kernel
theorem dX2_start_90 : decode cX2_start 90 = .ok (.putfield 66, 3) := by decide +kernel
theorem dX2_start_93 : decode cX2_start 93 = .ok (.aload_n 0, 1) := by decide +kernel
theorem dX2_start_94 : decode cX2_start 94 = .ok (.iconst 0, 1) := by decide +kernel
theorem dX2_start_95 : decode cX2_start 95 = .ok (.putfield 69, 3) := by decide +kernel
theorem dX2_start_98 : decode cX2_start 98 = .ok (.return_, 1) := by decide +kernel
theorem dX2_wantsMore_0 : decode cX2_wantsMore 0 = .ok (.aload_n 0, 1) := by decide +kernel
theorem dX2_wantsMore_1 : decode cX2_wantsMore 1 = .ok (.getfield 48, 3) := by decide +kernel
theorem dX2_wantsMore_4 : decode cX2_wantsMore 4 = .ok (.ifCond .gt 12, 3) := by decide +kernel
theorem dX2_wantsMore_7 : decode cX2_wantsMore 7 = .ok (.aload_n 0, 1) := by decide +kernel
theorem dX2_wantsMore_8 : decode cX2_wantsMore 8 = .ok (.invokevirtual 72, 3) := by decide +kernel
theorem dX2_wantsMore_11 : decode cX2_wantsMore 11 = .ok (.bipush (-2), 2) := by decide +kernel
theorem dX2_wantsMore_13 : decode cX2_wantsMore 13 = .ok (.if_icmp .eq 7, 3) := by decide +kernel
theorem dX2_wantsMore_16 : decode cX2_wantsMore 16 = .ok (.iconst 1, 1) := by decide +kernel
theorem dX2_wantsMore_17 : decode cX2_wantsMore 17 = .ok (.goto 4, 3) := by decide +kernel
theorem dX2_wantsMore_20 : decode cX2_wantsMore 20 = .ok (.iconst 0, 1) := by decide +kernel
theorem dX2_wantsMore_21 : decode cX2_wantsMore 21 = .ok (.ireturn, 1) := by decide +kernel
theorem dX2_toDoCount_0 : decode cX2_toDoCount 0 = .ok (.iconst 0, 1) := by decide +kernel
theorem dX2_toDoCount_1 : decode cX2_toDoCount 1 = .ok (.istore_n 1, 1) := by decide +kernel
theorem dX2_toDoCount_2 : decode cX2_toDoCount 2 = .ok (.iconst 0, 1) := by decide +kernel
theorem dX2_toDoCount_3 : decode cX2_toDoCount 3 = .ok (.istore_n 2, 1) := by decide +kernel
theorem dX2_toDoCount_4 : decode cX2_toDoCount 4 = .ok (.iload_n 2, 1) := by decide +kernel
theorem dX2_toDoCount_5 : decode cX2_toDoCount 5 = .ok (.bipush 8, 2) := by decide +kernel
theorem dX2_toDoCount_7 : decode cX2_toDoCount 7 = .ok (.if_icmp .ge 26, 3) := by decide +kernel
theorem dX2_toDoCount_10 : decode cX2_toDoCount 10 = .ok (.iload_n 1, 1) := by decide +kernel
theorem dX2_toDoCount_11 : decode cX2_toDoCount 11 = .ok (.aload_n 0, 1) := by decide +kernel
theorem dX2_toDoCount_12 : decode cX2_toDoCount 12 = .ok (.getfield 15, 3) := by decide +kernel
theorem dX2_toDoCount_15 : decode cX2_toDoCount 15 = .ok (.iload_n 2, 1) := by decide +kernel
theorem dX2_toDoCount_16 : decode cX2_toDoCount 16 = .ok (.baload, 1) := by decide +kernel
theorem dX2_toDoCount_17 : decode cX2_toDoCount 17 = .ok (.ifCond .eq 7, 3) := by decide +kernel
theorem dX2_toDoCount_20 : decode cX2_toDoCount 20 = .ok (.iconst 1, 1) := by decide +kernel
theorem dX2_toDoCount_21 : decode cX2_toDoCount 21 = .ok (.goto 4, 3) := by decide +kernel
theorem dX2_toDoCount_24 : decode cX2_toDoCount 24 = .ok (.iconst 0, 1) := by decide +kernel
theorem dX2_toDoCount_25 : decode cX2_toDoCount 25 = .ok (.iadd, 1) := by decide +kernel
theorem dX2_toDoCount_26 : decode cX2_toDoCount 26 = .ok (.istore_n 1, 1) := by decide +kernel
theorem dX2_toDoCount_27 : decode cX2_toDoCount 27 = .ok (.iinc 2 1, 3) := by decide +kernel
theorem dX2_toDoCount_30 : decode cX2_toDoCount 30 = .ok (.goto (-26), 3) := by decide +kernel
theorem dX2_toDoCount_33 : decode cX2_toDoCount 33 = .ok (.iload_n 1, 1) := by decide +kernel
theorem dX2_toDoCount_34 : decode cX2_toDoCount 34 = .ok (.ireturn, 1) := by decide +kernel
theorem dX2_makeNext_0 : decode cX2_makeNext 0 = .ok (.aload_n 0, 1) := by decide +kernel
theorem dX2_makeNext_1 : decode cX2_makeNext 1 = .ok (.getfield 48, 3) := by decide +kernel
theorem dX2_makeNext_4 : decode cX2_makeNext 4 = .ok (.ifCond .le 42, 3) := by decide +kernel
theorem dX2_makeNext_7 : decode cX2_makeNext 7 = .ok (.aload_n 0, 1) := by decide +kernel
theorem dX2_makeNext_8 : decode cX2_makeNext 8 = .ok (.getfield 48, 3) := by decide +kernel
theorem dX2_makeNext_11 : decode cX2_makeNext 11 = .ok (.bipush 16, 2) := by decide +kernel
theorem dX2_makeNext_13 : decode cX2_makeNext 13 = .ok (.if_icmp .gt 33, 3) := by decide +kernel
theorem dX2_makeNext_16 : decode cX2_makeNext 16 = .ok (.aload_n 0, 1) := by decide +kernel
theorem dX2_makeNext_17 : decode cX2_makeNext 17 = .ok (.dup, 1) := by decide +kernel
theorem dX2_makeNext_18 : decode cX2_makeNext 18 = .ok (.getfield 48, 3) := by decide +kernel
theorem dX2_makeNext_21 : decode cX2_makeNext 21 = .ok (.iconst 1, 1) := by decide +kernel
theorem dX2_makeNext_22 : decode cX2_makeNext 22 = .ok (.isub, 1) := by decide +kernel
theorem dX2_makeNext_23 : decode cX2_makeNext 23 = .ok (.putfield 48, 3) := by decide +kernel
theorem dX2_makeNext_26 : decode cX2_makeNext 26 = .ok (.aload_n 1, 1) := by decide +kernel
theorem dX2_makeNext_27 : decode cX2_makeNext 27 = .ok (.iconst 0, 1) := by decide +kernel
theorem dX2_makeNext_28 : decode cX2_makeNext 28 = .ok (.iconst 2, 1) := by decide +kernel
theorem dX2_makeNext_29 : decode cX2_makeNext 29 = .ok (.invokevirtual 76, 3) := by decide +kernel
theorem dX2_makeNext_32 : decode cX2_makeNext 32 = .ok (.aload_n 1, 1) := by decide +kernel
theorem dX2_makeNext_33 : decode cX2_makeNext 33 = .ok (.aload_n 0, 1) := by decide +kernel
theorem dX2_makeNext_34 : decode cX2_makeNext 34 = .ok (.getfield 9, 3) := by decide +kernel
theorem dX2_makeNext_37 : decode cX2_makeNext 37 = .ok (.aload_n 0, 1) := by decide +kernel
theorem dX2_makeNext_38 : decode cX2_makeNext 38 = .ok (.getfield 48, 3) := by decide +kernel
theorem dX2_makeNext_41 : decode cX2_makeNext 41 = .ok (.iaload, 1) := by decide +kernel
theorem dX2_makeNext_42 : decode cX2_makeNext 42 = .ok (.putfield 82, 3) := by decide +kernel
theorem dX2_makeNext_45 : decode cX2_makeNext 45 = .ok (.return_, 1) := by decide +kernel
theorem dX2_makeNext_46 : decode cX2_makeNext 46 = .ok (.aload_n 0, 1) := by decide +kernel
theorem dX2_makeNext_47 : decode cX2_makeNext 47 = .ok (.invokevirtual 72, 3) := by decide +kernel
theorem dX2_makeNext_50 : decode cX2_makeNext 50 = .ok (.istore_n 2, 1) := by decide +kernel
theorem dX2_makeNext_51 : decode cX2_makeNext 51 = .ok (.iload_n 2, 1) := by decide +kernel
theorem dX2_makeNext_52 : decode cX2_makeNext 52 = .ok (.aload_n 0, 1) := by decide +kernel
theorem dX2_makeNext_53 : decode cX2_makeNext 53 = .ok (.getfield 31, 3) := by decide +kernel
theorem dX2_makeNext_56 : decode cX2_makeNext 56 = .ok (.if_icmp .eq 21, 3) := by decide +kernel
theorem dX2_makeNext_59 : decode cX2_makeNext 59 = .ok (.aload_n 0, 1) := by decide +kernel
theorem dX2_makeNext_60 : decode cX2_makeNext 60 = .ok (.iload_n 2, 1) := by decide +kernel
theorem dX2_makeNext_61 : decode cX2_makeNext 61 = .ok (.putfield 31, 3) := by decide +kernel
theorem dX2_makeNext_64 : decode cX2_makeNext 64 = .ok (.aload_n 0, 1) := by decide +kernel
theorem dX2_makeNext_65 : decode cX2_makeNext 65 = .ok (.aload_n 0, 1) := by decide +kernel
theorem dX2_makeNext_66 : decode cX2_makeNext 66 = .ok (.getfield 42, 3) := by decide +kernel
theorem dX2_makeNext_69 : decode cX2_makeNext 69 = .ok (.putfield 85, 3) := by decide +kernel
theorem dX2_makeNext_72 : decode cX2_makeNext 72 = .ok (.aload_n 0, 1) := by decide +kernel
theorem dX2_makeNext_73 : decode cX2_makeNext 73 = .ok (.iconst 0, 1) := by decide +kernel
theorem dX2_makeNext_74 : decode cX2_makeNext 74 = .ok (.putfield 88, 3) := by decide +kernel
theorem dX2_makeNext_77 : decode cX2_makeNext 77 = .ok (.aload_n 0, 1) := by decide +kernel
theorem dX2_makeNext_78 : decode cX2_makeNext 78 = .ok (.invokevirtual 54, 3) := by decide +kernel
theorem dX2_makeNext_81 : decode cX2_makeNext 81 = .ok (.aload_n 1, 1) := by decide +kernel
theorem dX2_makeNext_82 : decode cX2_makeNext 82 = .ok (.getfield 91, 3) := by decide +kernel
theorem dX2_makeNext_85 : decode cX2_makeNext 85 = .ok (.aload_n 0, 1) := by decide +kernel
theorem dX2_makeNext_86 : decode cX2_makeNext 86 = .ok (.getfield 35, 3) := by decide +kernel
theorem dX2_makeNext_89 : decode cX2_makeNext 89 = .ok (.aload_n 0, 1) := by decide +kernel
theorem dX2_makeNext_90 : decode cX2_makeNext 90 = .ok (.getfield 31, 3) := by decide +kernel
theorem dX2_makeNext_93 : decode cX2_makeNext 93 = .ok (.invokevirtual 95, 3) := by decide +kernel
theorem dX2_makeNext_96 : decode cX2_makeNext 96 = .ok (.aload_n 0, 1) := by decide +kernel
theorem dX2_makeNext_97 : decode cX2_makeNext 97 = .ok (.getfield 39, 3) := by decide +kernel
theorem dX2_makeNext_100 : decode cX2_makeNext 100 = .ok (.aload_n 0, 1) := by decide +kernel
theorem dX2_makeNext_101 : decode cX2_makeNext 101 = .ok (.getfield 85, 3) := by decide +kernel
theorem dX2_makeNext_104 : decode cX2_makeNext 104 = .ok (.invokevirtual 101, 3) := by decide +kernel
theorem dX2_makeNext_107 : decode cX2_makeNext 107 = .ok (.aload_n 1, 1) := by decide +kernel
theorem dX2_makeNext_108 : decode cX2_makeNext 108 = .ok (.iconst 2, 1) := by decide +kernel
theorem dX2_makeNext_109 : decode cX2_makeNext 109 = .ok (.bipush 6, 2) := by decide +kernel
theorem dX2_makeNext_111 : decode cX2_makeNext 111 = .ok (.iconst 4, 1) := by decide +kernel
theorem dX2_makeNext_112 : decode cX2_makeNext 112 = .ok (.aload_n 0, 1) := by decide +kernel
theorem dX2_makeNext_113 : decode cX2_makeNext 113 = .ok (.getfield 85, 3) := by decide +kernel
theorem dX2_makeNext_116 : decode cX2_makeNext 116 = .ok (.iadd, 1) := by decide +kernel
theorem dX2_makeNext_117 : decode cX2_makeNext 117 = .ok (.aload_n 1, 1) := by decide +kernel
theorem dX2_makeNext_118 : decode cX2_makeNext 118 = .ok (.getfield 91, 3) := by decide +kernel
theorem dX2_makeNext_121 : decode cX2_makeNext 121 = .ok (.invokevirtual 107, 3) := by decide +kernel
theorem dX2_makeNext_124 : decode cX2_makeNext 124 = .ok (.imul, 1) := by decide +kernel
theorem dX2_makeNext_125 : decode cX2_makeNext 125 = .ok (.iadd, 1) := by decide +kernel
theorem dX2_makeNext_126 : decode cX2_makeNext 126 = .ok (.invokevirtual 76, 3) := by decide +kernel
theorem dX2_makeNext_129 : decode cX2_makeNext 129 = .ok (.aload_n 1, 1) := by decide +kernel
theorem dX2_makeNext_130 : decode cX2_makeNext 130 = .ok (.aload_n 0, 1) := by decide +kernel
theorem dX2_makeNext_131 : decode cX2_makeNext 131 = .ok (.getfield 31, 3) := by decide +kernel
theorem dX2_makeNext_134 : decode cX2_makeNext 134 = .ok (.putfield 82, 3) := by decide +kernel
theorem dX2_makeNext_137 : decode cX2_makeNext 137 = .ok (.return_, 1) := by decide +kernel
theorem dX2_takeNode_0 : decode cX2_takeNode 0 = .ok (.aload_n 0, 1) := by decide +kernel
theorem dX2_takeNode_1 : decode cX2_takeNode 1 = .ok (.getfield 35, 3) := by decide +kernel
theorem dX2_takeNode_4 : decode cX2_takeNode 4 = .ok (.iload_n 1, 1) := by decide +kernel
theorem dX2_takeNode_5 : decode cX2_takeNode 5 = .ok (.invokevirtual 110, 3) := by decide +kernel
theorem dX2_takeNode_8 : decode cX2_takeNode 8 = .ok (.lload_n 2, 1) := by decide +kernel
theorem dX2_takeNode_9 : decode cX2_takeNode 9 = .ok (.lcmp, 1) := by decide +kernel
theorem dX2_takeNode_10 : decode cX2_takeNode 10 = .ok (.ifCond .ne 4, 3) := by decide +kernel
theorem dX2_takeNode_13 : decode cX2_takeNode 13 = .ok (.return_, 1) := by decide +kernel
theorem dX2_takeNode_14 : decode cX2_takeNode 14 = .ok (.iload_n 1, 1) := by decide +kernel
theorem dX2_takeNode_15 : decode cX2_takeNode 15 = .ok (.bipush 8, 2) := by decide +kernel
theorem dX2_takeNode_17 : decode cX2_takeNode 17 = .ok (.if_icmp .ge 22, 3) := by decide +kernel
theorem dX2_takeNode_20 : decode cX2_takeNode 20 = .ok (.aload_n 0, 1) := by decide +kernel
theorem dX2_takeNode_21 : decode cX2_takeNode 21 = .ok (.iconst 2, 1) := by decide +kernel
theorem dX2_takeNode_22 : decode cX2_takeNode 22 = .ok (.iload_n 1, 1) := by decide +kernel
theorem dX2_takeNode_23 : decode cX2_takeNode 23 = .ok (.imul, 1) := by decide +kernel
theorem dX2_takeNode_24 : decode cX2_takeNode 24 = .ok (.iconst 1, 1) := by decide +kernel
theorem dX2_takeNode_25 : decode cX2_takeNode 25 = .ok (.iadd, 1) := by decide +kernel
theorem dX2_takeNode_26 : decode cX2_takeNode 26 = .ok (.invokevirtual 51, 3) := by decide +kernel
theorem dX2_takeNode_29 : decode cX2_takeNode 29 = .ok (.aload_n 0, 1) := by decide +kernel
theorem dX2_takeNode_30 : decode cX2_takeNode 30 = .ok (.iconst 2, 1) := by decide +kernel
theorem dX2_takeNode_31 : decode cX2_takeNode 31 = .ok (.iload_n 1, 1) := by decide +kernel
theorem dX2_takeNode_32 : decode cX2_takeNode 32 = .ok (.imul, 1) := by decide +kernel
theorem dX2_takeNode_33 : decode cX2_takeNode 33 = .ok (.invokevirtual 51, 3) := by decide +kernel
theorem dX2_takeNode_36 : decode cX2_takeNode 36 = .ok (.goto 19, 3) := by decide +kernel
theorem dX2_takeNode_39 : decode cX2_takeNode 39 = .ok (.iload_n 1, 1) := by decide +kernel
theorem dX2_takeNode_40 : decode cX2_takeNode 40 = .ok (.bipush 16, 2) := by decide +kernel
theorem dX2_takeNode_42 : decode cX2_takeNode 42 = .ok (.if_icmp .ge 13, 3) := by decide +kernel
theorem dX2_takeNode_45 : decode cX2_takeNode 45 = .ok (.aload_n 0, 1) := by decide +kernel
theorem dX2_takeNode_46 : decode cX2_takeNode 46 = .ok (.getfield 15, 3) := by decide +kernel
theorem dX2_takeNode_49 : decode cX2_takeNode 49 = .ok (.iload_n 1, 1) := by decide +kernel
theorem dX2_takeNode_50 : decode cX2_takeNode 50 = .ok (.bipush 8, 2) := by decide +kernel
theorem dX2_takeNode_52 : decode cX2_takeNode 52 = .ok (.isub, 1) := by decide +kernel
theorem dX2_takeNode_53 : decode cX2_takeNode 53 = .ok (.iconst 1, 1) := by decide +kernel
theorem dX2_takeNode_54 : decode cX2_takeNode 54 = .ok (.bastore, 1) := by decide +kernel
theorem dX2_takeNode_55 : decode cX2_takeNode 55 = .ok (.return_, 1) := by decide +kernel
theorem dX2_takeGone_0 : decode cX2_takeGone 0 = .ok (.aload_n 0, 1) := by decide +kernel
theorem dX2_takeGone_1 : decode cX2_takeGone 1 = .ok (.invokevirtual 114, 3) := by decide +kernel
theorem dX2_takeGone_4 : decode cX2_takeGone 4 = .ok (.aload_n 0, 1) := by decide +kernel
theorem dX2_takeGone_5 : decode cX2_takeGone 5 = .ok (.getfield 45, 3) := by decide +kernel
theorem dX2_takeGone_8 : decode cX2_takeGone 8 = .ok (.iconst 1, 1) := by decide +kernel
theorem dX2_takeGone_9 : decode cX2_takeGone 9 = .ok (.if_icmp .ne 17, 3) := by decide +kernel
theorem dX2_takeGone_12 : decode cX2_takeGone 12 = .ok (.aload_n 0, 1) := by decide +kernel
theorem dX2_takeGone_13 : decode cX2_takeGone 13 = .ok (.getfield 35, 3) := by decide +kernel
theorem dX2_takeGone_16 : decode cX2_takeGone 16 = .ok (.aload_n 0, 1) := by decide +kernel
theorem dX2_takeGone_17 : decode cX2_takeGone 17 = .ok (.getfield 31, 3) := by decide +kernel
theorem dX2_takeGone_20 : decode cX2_takeGone 20 = .ok (.invokevirtual 117, 3) := by decide +kernel
theorem dX2_takeGone_23 : decode cX2_takeGone 23 = .ok (.goto 31, 3) := by decide +kernel
theorem dX2_takeGone_26 : decode cX2_takeGone 26 = .ok (.aload_n 0, 1) := by decide +kernel
theorem dX2_takeGone_27 : decode cX2_takeGone 27 = .ok (.getfield 45, 3) := by decide +kernel
theorem dX2_takeGone_30 : decode cX2_takeGone 30 = .ok (.iconst 2, 1) := by decide +kernel
theorem dX2_takeGone_31 : decode cX2_takeGone 31 = .ok (.if_icmp .ne 23, 3) := by decide +kernel
theorem dX2_takeGone_34 : decode cX2_takeGone 34 = .ok (.aload_n 0, 1) := by decide +kernel
theorem dX2_takeGone_35 : decode cX2_takeGone 35 = .ok (.getfield 31, 3) := by decide +kernel
theorem dX2_takeGone_38 : decode cX2_takeGone 38 = .ok (.invokestatic 120, 3) := by decide +kernel
theorem dX2_takeGone_41 : decode cX2_takeGone 41 = .ok (.ifCond .eq 13, 3) := by decide +kernel
theorem dX2_takeGone_44 : decode cX2_takeGone 44 = .ok (.aload_n 0, 1) := by decide +kernel
theorem dX2_takeGone_45 : decode cX2_takeGone 45 = .ok (.getfield 19, 3) := by decide +kernel
theorem dX2_takeGone_48 : decode cX2_takeGone 48 = .ok (.aload_n 0, 1) := by decide +kernel
theorem dX2_takeGone_49 : decode cX2_takeGone 49 = .ok (.getfield 31, 3) := by decide +kernel
theorem dX2_takeGone_52 : decode cX2_takeGone 52 = .ok (.iconst 1, 1) := by decide +kernel
theorem dX2_takeGone_53 : decode cX2_takeGone 53 = .ok (.bastore, 1) := by decide +kernel
theorem dX2_takeGone_54 : decode cX2_takeGone 54 = .ok (.return_, 1) := by decide +kernel
theorem dX2_takeBytes_0 : decode cX2_takeBytes 0 = .ok (.aload_n 0, 1) := by decide +kernel
theorem dX2_takeBytes_1 : decode cX2_takeBytes 1 = .ok (.dup, 1) := by decide +kernel
theorem dX2_takeBytes_2 : decode cX2_takeBytes 2 = .ok (.getfield 69, 3) := by decide +kernel
theorem dX2_takeBytes_5 : decode cX2_takeBytes 5 = .ok (.aload_n 1, 1) := by decide +kernel
theorem dX2_takeBytes_6 : decode cX2_takeBytes 6 = .ok (.invokevirtual 124, 3) := by decide +kernel
theorem dX2_takeBytes_9 : decode cX2_takeBytes 9 = .ok (.iadd, 1) := by decide +kernel
theorem dX2_takeBytes_10 : decode cX2_takeBytes 10 = .ok (.putfield 69, 3) := by decide +kernel
theorem dX2_takeBytes_13 : decode cX2_takeBytes 13 = .ok (.aload_n 0, 1) := by decide +kernel
theorem dX2_takeBytes_14 : decode cX2_takeBytes 14 = .ok (.getfield 27, 3) := by decide +kernel
theorem dX2_takeBytes_17 : decode cX2_takeBytes 17 = .ok (.aload_n 1, 1) := by decide +kernel
theorem dX2_takeBytes_18 : decode cX2_takeBytes 18 = .ok (.invokevirtual 125, 3) := by decide +kernel
theorem dX2_takeBytes_21 : decode cX2_takeBytes 21 = .ok (.return_, 1) := by decide +kernel
theorem dX2_takeBlock_0 : decode cX2_takeBlock 0 = .ok (.aload_n 0, 1) := by decide +kernel
theorem dX2_takeBlock_1 : decode cX2_takeBlock 1 = .ok (.dup, 1) := by decide +kernel
theorem dX2_takeBlock_2 : decode cX2_takeBlock 2 = .ok (.getfield 66, 3) := by decide +kernel
theorem dX2_takeBlock_5 : decode cX2_takeBlock 5 = .ok (.iconst 1, 1) := by decide +kernel
theorem dX2_takeBlock_6 : decode cX2_takeBlock 6 = .ok (.iadd, 1) := by decide +kernel
theorem dX2_takeBlock_7 : decode cX2_takeBlock 7 = .ok (.putfield 66, 3) := by decide +kernel
theorem dX2_takeBlock_10 : decode cX2_takeBlock 10 = .ok (.aload_n 0, 1) := by decide +kernel
theorem dX2_takeBlock_11 : decode cX2_takeBlock 11 = .ok (.getfield 35, 3) := by decide +kernel
theorem dX2_takeBlock_14 : decode cX2_takeBlock 14 = .ok (.aload_n 0, 1) := by decide +kernel
theorem dX2_takeBlock_15 : decode cX2_takeBlock 15 = .ok (.getfield 31, 3) := by decide +kernel
theorem dX2_takeBlock_18 : decode cX2_takeBlock 18 = .ok (.invokevirtual 95, 3) := by decide +kernel
theorem dX2_takeBlock_21 : decode cX2_takeBlock 21 = .ok (.astore_n 2, 1) := by decide +kernel
theorem dX2_takeBlock_22 : decode cX2_takeBlock 22 = .ok (.aload_n 2, 1) := by decide +kernel
theorem dX2_takeBlock_23 : decode cX2_takeBlock 23 = .ok (.ifnonnull 4, 3) := by decide +kernel
theorem dX2_takeBlock_26 : decode cX2_takeBlock 26 = .ok (.return_, 1) := by decide +kernel
theorem dX2_takeBlock_27 : decode cX2_takeBlock 27 = .ok (.iload_n 1, 1) := by decide +kernel
theorem dX2_takeBlock_28 : decode cX2_takeBlock 28 = .ok (.aload_n 0, 1) := by decide +kernel
theorem dX2_takeBlock_29 : decode cX2_takeBlock 29 = .ok (.getfield 39, 3) := by decide +kernel
theorem dX2_takeBlock_32 : decode cX2_takeBlock 32 = .ok (.imul, 1) := by decide +kernel
theorem dX2_takeBlock_33 : decode cX2_takeBlock 33 = .ok (.istore_n 3, 1) := by decide +kernel
theorem dX2_takeBlock_34 : decode cX2_takeBlock 34 = .ok (.iload_n 3, 1) := by decide +kernel
theorem dX2_takeBlock_35 : decode cX2_takeBlock 35 = .ok (.istore 4, 2) := by decide +kernel
theorem dX2_takeBlock_37 : decode cX2_takeBlock 37 = .ok (.iload 4, 2) := by decide +kernel
theorem dX2_takeBlock_39 : decode cX2_takeBlock 39 = .ok (.iload_n 3, 1) := by decide +kernel
theorem dX2_takeBlock_40 : decode cX2_takeBlock 40 = .ok (.aload_n 0, 1) := by decide +kernel
theorem dX2_takeBlock_41 : decode cX2_takeBlock 41 = .ok (.getfield 39, 3) := by decide +kernel
theorem dX2_takeBlock_44 : decode cX2_takeBlock 44 = .ok (.iadd, 1) := by decide +kernel
theorem dX2_takeBlock_45 : decode cX2_takeBlock 45 = .ok (.if_icmp .ge 31, 3) := by decide +kernel
theorem dX2_takeBlock_48 : decode cX2_takeBlock 48 = .ok (.iload 4, 2) := by decide +kernel
theorem dX2_takeBlock_50 : decode cX2_takeBlock 50 = .ok (.aload_n 2, 1) := by decide +kernel
theorem dX2_takeBlock_51 : decode cX2_takeBlock 51 = .ok (.invokevirtual 124, 3) := by decide +kernel
theorem dX2_takeBlock_54 : decode cX2_takeBlock 54 = .ok (.if_icmp .ge 22, 3) := by decide +kernel
theorem dX2_takeBlock_57 : decode cX2_takeBlock 57 = .ok (.aload_n 0, 1) := by decide +kernel
theorem dX2_takeBlock_58 : decode cX2_takeBlock 58 = .ok (.getfield 27, 3) := by decide +kernel
theorem dX2_takeBlock_61 : decode cX2_takeBlock 61 = .ok (.aload_n 2, 1) := by decide +kernel
theorem dX2_takeBlock_62 : decode cX2_takeBlock 62 = .ok (.iload 4, 2) := by decide +kernel
theorem dX2_takeBlock_64 : decode cX2_takeBlock 64 = .ok (.invokevirtual 129, 3) := by decide +kernel
theorem dX2_takeBlock_67 : decode cX2_takeBlock 67 = .ok (.invokevirtual 133, 3) := by decide +kernel
theorem dX2_takeBlock_70 : decode cX2_takeBlock 70 = .ok (.iinc 4 1, 3) := by decide +kernel
theorem dX2_takeBlock_73 : decode cX2_takeBlock 73 = .ok (.goto (-36), 3) := by decide +kernel
theorem dX2_takeBlock_76 : decode cX2_takeBlock 76 = .ok (.return_, 1) := by decide +kernel
theorem dX2_takeEnd_0 : decode cX2_takeEnd 0 = .ok (.aload_n 0, 1) := by decide +kernel
theorem dX2_takeEnd_1 : decode cX2_takeEnd 1 = .ok (.getfield 27, 3) := by decide +kernel
theorem dX2_takeEnd_4 : decode cX2_takeEnd 4 = .ok (.iconst 0, 1) := by decide +kernel
theorem dX2_takeEnd_5 : decode cX2_takeEnd 5 = .ok (.sipush 500, 3) := by decide +kernel
theorem dX2_takeEnd_8 : decode cX2_takeEnd 8 = .ok (.invokevirtual 136, 3) := by decide +kernel
theorem dX2_takeEnd_11 : decode cX2_takeEnd 11 = .ok (.lload_n 1, 1) := by decide +kernel
theorem dX2_takeEnd_12 : decode cX2_takeEnd 12 = .ok (.lcmp, 1) := by decide +kernel
theorem dX2_takeEnd_13 : decode cX2_takeEnd 13 = .ok (.ifCond .ne 33, 3) := by decide +kernel
theorem dX2_takeEnd_16 : decode cX2_takeEnd 16 = .ok (.aload_n 0, 1) := by decide +kernel
theorem dX2_takeEnd_17 : decode cX2_takeEnd 17 = .ok (.getfield 35, 3) := by decide +kernel
theorem dX2_takeEnd_20 : decode cX2_takeEnd 20 = .ok (.aload_n 0, 1) := by decide +kernel
theorem dX2_takeEnd_21 : decode cX2_takeEnd 21 = .ok (.getfield 31, 3) := by decide +kernel
theorem dX2_takeEnd_24 : decode cX2_takeEnd 24 = .ok (.aload_n 0, 1) := by decide +kernel
theorem dX2_takeEnd_25 : decode cX2_takeEnd 25 = .ok (.getfield 27, 3) := by decide +kernel
theorem dX2_takeEnd_28 : decode cX2_takeEnd 28 = .ok (.invokevirtual 140, 3) := by decide +kernel
theorem dX2_takeEnd_31 : decode cX2_takeEnd 31 = .ok (.aload_n 0, 1) := by decide +kernel
theorem dX2_takeEnd_32 : decode cX2_takeEnd 32 = .ok (.dup, 1) := by decide +kernel
theorem dX2_takeEnd_33 : decode cX2_takeEnd 33 = .ok (.getfield 57, 3) := by decide +kernel
theorem dX2_takeEnd_36 : decode cX2_takeEnd 36 = .ok (.iconst 1, 1) := by decide +kernel
theorem dX2_takeEnd_37 : decode cX2_takeEnd 37 = .ok (.iadd, 1) := by decide +kernel
theorem dX2_takeEnd_38 : decode cX2_takeEnd 38 = .ok (.putfield 57, 3) := by decide +kernel
theorem dX2_takeEnd_41 : decode cX2_takeEnd 41 = .ok (.aload_n 0, 1) := by decide +kernel
theorem dX2_takeEnd_42 : decode cX2_takeEnd 42 = .ok (.invokevirtual 114, 3) := by decide +kernel
theorem dX2_takeEnd_45 : decode cX2_takeEnd 45 = .ok (.return_, 1) := by decide +kernel
theorem dX2_takeEnd_46 : decode cX2_takeEnd 46 = .ok (.aload_n 0, 1) := by decide +kernel
theorem dX2_takeEnd_47 : decode cX2_takeEnd 47 = .ok (.dup, 1) := by decide +kernel
theorem dX2_takeEnd_48 : decode cX2_takeEnd 48 = .ok (.getfield 63, 3) := by decide +kernel
theorem dX2_takeEnd_51 : decode cX2_takeEnd 51 = .ok (.iconst 1, 1) := by decide +kernel
theorem dX2_takeEnd_52 : decode cX2_takeEnd 52 = .ok (.iadd, 1) := by decide +kernel
theorem dX2_takeEnd_53 : decode cX2_takeEnd 53 = .ok (.putfield 63, 3) := by decide +kernel
theorem dX2_takeEnd_56 : decode cX2_takeEnd 56 = .ok (.aload_n 0, 1) := by decide +kernel
theorem dX2_takeEnd_57 : decode cX2_takeEnd 57 = .ok (.dup, 1) := by decide +kernel
theorem dX2_takeEnd_58 : decode cX2_takeEnd 58 = .ok (.getfield 88, 3) := by decide +kernel
theorem dX2_takeEnd_61 : decode cX2_takeEnd 61 = .ok (.iconst 1, 1) := by decide +kernel
theorem dX2_takeEnd_62 : decode cX2_takeEnd 62 = .ok (.iadd, 1) := by decide +kernel
theorem dX2_takeEnd_63 : decode cX2_takeEnd 63 = .ok (.putfield 88, 3) := by decide +kernel
theorem dX2_takeEnd_66 : decode cX2_takeEnd 66 = .ok (.aload_n 0, 1) := by decide +kernel
theorem dX2_takeEnd_67 : decode cX2_takeEnd 67 = .ok (.bipush 8, 2) := by decide +kernel
theorem dX2_takeEnd_69 : decode cX2_takeEnd 69 = .ok (.iconst 2, 1) := by decide +kernel
theorem dX2_takeEnd_70 : decode cX2_takeEnd 70 = .ok (.aload_n 0, 1) := by decide +kernel
theorem dX2_takeEnd_71 : decode cX2_takeEnd 71 = .ok (.getfield 85, 3) := by decide +kernel
theorem dX2_takeEnd_74 : decode cX2_takeEnd 74 = .ok (.imul, 1) := by decide +kernel
theorem dX2_takeEnd_75 : decode cX2_takeEnd 75 = .ok (.invokestatic 144, 3) := by decide +kernel
theorem dX2_takeEnd_78 : decode cX2_takeEnd 78 = .ok (.putfield 85, 3) := by decide +kernel
theorem dX2_takeEnd_81 : decode cX2_takeEnd 81 = .ok (.aload_n 0, 1) := by decide +kernel
theorem dX2_takeEnd_82 : decode cX2_takeEnd 82 = .ok (.getfield 88, 3) := by decide +kernel
theorem dX2_takeEnd_85 : decode cX2_takeEnd 85 = .ok (.iconst 3, 1) := by decide +kernel
theorem dX2_takeEnd_86 : decode cX2_takeEnd 86 = .ok (.if_icmp .lt 17, 3) := by decide +kernel
theorem dX2_takeEnd_89 : decode cX2_takeEnd 89 = .ok (.aload_n 0, 1) := by decide +kernel
theorem dX2_takeEnd_90 : decode cX2_takeEnd 90 = .ok (.dup, 1) := by decide +kernel
theorem dX2_takeEnd_91 : decode cX2_takeEnd 91 = .ok (.getfield 60, 3) := by decide +kernel
theorem dX2_takeEnd_94 : decode cX2_takeEnd 94 = .ok (.iconst 1, 1) := by decide +kernel
theorem dX2_takeEnd_95 : decode cX2_takeEnd 95 = .ok (.iadd, 1) := by decide +kernel
theorem dX2_takeEnd_96 : decode cX2_takeEnd 96 = .ok (.putfield 60, 3) := by decide +kernel
theorem dX2_takeEnd_99 : decode cX2_takeEnd 99 = .ok (.aload_n 0, 1) := by decide +kernel
theorem dX2_takeEnd_100 : decode cX2_takeEnd 100 = .ok (.invokevirtual 114, 3) := by decide +kernel
theorem dX2_takeEnd_103 : decode cX2_takeEnd 103 = .ok (.return_, 1) := by decide +kernel
theorem dX2_dropTold_0 : decode cX2_dropTold 0 = .ok (.iconst 0, 1) := by decide +kernel
theorem dX2_dropTold_1 : decode cX2_dropTold 1 = .ok (.istore_n 1, 1) := by decide +kernel
theorem dX2_dropTold_2 : decode cX2_dropTold 2 = .ok (.iload_n 1, 1) := by decide +kernel
theorem dX2_dropTold_3 : decode cX2_dropTold 3 = .ok (.bipush 8, 2) := by decide +kernel
theorem dX2_dropTold_5 : decode cX2_dropTold 5 = .ok (.if_icmp .ge 26, 3) := by decide +kernel
theorem dX2_dropTold_8 : decode cX2_dropTold 8 = .ok (.aload_n 0, 1) := by decide +kernel
theorem dX2_dropTold_9 : decode cX2_dropTold 9 = .ok (.getfield 19, 3) := by decide +kernel
theorem dX2_dropTold_12 : decode cX2_dropTold 12 = .ok (.iload_n 1, 1) := by decide +kernel
theorem dX2_dropTold_13 : decode cX2_dropTold 13 = .ok (.baload, 1) := by decide +kernel
theorem dX2_dropTold_14 : decode cX2_dropTold 14 = .ok (.ifCond .eq 11, 3) := by decide +kernel
theorem dX2_dropTold_17 : decode cX2_dropTold 17 = .ok (.aload_n 0, 1) := by decide +kernel
theorem dX2_dropTold_18 : decode cX2_dropTold 18 = .ok (.getfield 35, 3) := by decide +kernel
theorem dX2_dropTold_21 : decode cX2_dropTold 21 = .ok (.iload_n 1, 1) := by decide +kernel
theorem dX2_dropTold_22 : decode cX2_dropTold 22 = .ok (.invokevirtual 117, 3) := by decide +kernel
theorem dX2_dropTold_25 : decode cX2_dropTold 25 = .ok (.iinc 1 1, 3) := by decide +kernel
theorem dX2_dropTold_28 : decode cX2_dropTold 28 = .ok (.goto (-26), 3) := by decide +kernel
theorem dX2_dropTold_31 : decode cX2_dropTold 31 = .ok (.return_, 1) := by decide +kernel
theorem dX2_forgetBuilt_0 : decode cX2_forgetBuilt 0 = .ok (.aload_n 0, 1) := by decide +kernel
theorem dX2_forgetBuilt_1 : decode cX2_forgetBuilt 1 = .ok (.getfield 27, 3) := by decide +kernel
theorem dX2_forgetBuilt_4 : decode cX2_forgetBuilt 4 = .ok (.iconst 0, 1) := by decide +kernel
theorem dX2_forgetBuilt_5 : decode cX2_forgetBuilt 5 = .ok (.invokevirtual 150, 3) := by decide +kernel
theorem dX2_forgetBuilt_8 : decode cX2_forgetBuilt 8 = .ok (.return_, 1) := by decide +kernel
theorem dX2_settle_0 : decode cX2_settle 0 = .ok (.aload_n 0, 1) := by decide +kernel
theorem dX2_settle_1 : decode cX2_settle 1 = .ok (.getfield 31, 3) := by decide +kernel
theorem dX2_settle_4 : decode cX2_settle 4 = .ok (.invokestatic 120, 3) := by decide +kernel
theorem dX2_settle_7 : decode cX2_settle 7 = .ok (.ifCond .eq 13, 3) := by decide +kernel
theorem dX2_settle_10 : decode cX2_settle 10 = .ok (.aload_n 0, 1) := by decide +kernel
theorem dX2_settle_11 : decode cX2_settle 11 = .ok (.getfield 15, 3) := by decide +kernel
theorem dX2_settle_14 : decode cX2_settle 14 = .ok (.aload_n 0, 1) := by decide +kernel
theorem dX2_settle_15 : decode cX2_settle 15 = .ok (.getfield 31, 3) := by decide +kernel
theorem dX2_settle_18 : decode cX2_settle 18 = .ok (.iconst 0, 1) := by decide +kernel
theorem dX2_settle_19 : decode cX2_settle 19 = .ok (.bastore, 1) := by decide +kernel
theorem dX2_settle_20 : decode cX2_settle 20 = .ok (.return_, 1) := by decide +kernel
theorem dX2_putToWait_0 : decode cX2_putToWait 0 = .ok (.aload_n 0, 1) := by decide +kernel
theorem dX2_putToWait_1 : decode cX2_putToWait 1 = .ok (.getfield 48, 3) := by decide +kernel
theorem dX2_putToWait_4 : decode cX2_putToWait 4 = .ok (.ifCond .lt 32, 3) := by decide +kernel
theorem dX2_putToWait_7 : decode cX2_putToWait 7 = .ok (.aload_n 0, 1) := by decide +kernel
theorem dX2_putToWait_8 : decode cX2_putToWait 8 = .ok (.getfield 48, 3) := by decide +kernel
theorem dX2_putToWait_11 : decode cX2_putToWait 11 = .ok (.bipush 16, 2) := by decide +kernel
theorem dX2_putToWait_13 : decode cX2_putToWait 13 = .ok (.if_icmp .ge 23, 3) := by decide +kernel
theorem dX2_putToWait_16 : decode cX2_putToWait 16 = .ok (.aload_n 0, 1) := by decide +kernel
theorem dX2_putToWait_17 : decode cX2_putToWait 17 = .ok (.getfield 9, 3) := by decide +kernel
theorem dX2_putToWait_20 : decode cX2_putToWait 20 = .ok (.aload_n 0, 1) := by decide +kernel
theorem dX2_putToWait_21 : decode cX2_putToWait 21 = .ok (.getfield 48, 3) := by decide +kernel
theorem dX2_putToWait_24 : decode cX2_putToWait 24 = .ok (.iload_n 1, 1) := by decide +kernel
theorem dX2_putToWait_25 : decode cX2_putToWait 25 = .ok (.iastore, 1) := by decide +kernel
theorem dX2_putToWait_26 : decode cX2_putToWait 26 = .ok (.aload_n 0, 1) := by decide +kernel
theorem dX2_putToWait_27 : decode cX2_putToWait 27 = .ok (.dup, 1) := by decide +kernel
theorem dX2_putToWait_28 : decode cX2_putToWait 28 = .ok (.getfield 48, 3) := by decide +kernel
theorem dX2_putToWait_31 : decode cX2_putToWait 31 = .ok (.iconst 1, 1) := by decide +kernel
theorem dX2_putToWait_32 : decode cX2_putToWait 32 = .ok (.iadd, 1) := by decide +kernel
theorem dX2_putToWait_33 : decode cX2_putToWait 33 = .ok (.putfield 48, 3) := by decide +kernel
theorem dX2_putToWait_36 : decode cX2_putToWait 36 = .ok (.return_, 1) := by decide +kernel
theorem dX2_leastToDo_0 : decode cX2_leastToDo 0 = .ok (.iconst 0, 1) := by decide +kernel
theorem dX2_leastToDo_1 : decode cX2_leastToDo 1 = .ok (.istore_n 1, 1) := by decide +kernel
theorem dX2_leastToDo_2 : decode cX2_leastToDo 2 = .ok (.iload_n 1, 1) := by decide +kernel
theorem dX2_leastToDo_3 : decode cX2_leastToDo 3 = .ok (.bipush 8, 2) := by decide +kernel
theorem dX2_leastToDo_5 : decode cX2_leastToDo 5 = .ok (.if_icmp .ge 20, 3) := by decide +kernel
theorem dX2_leastToDo_8 : decode cX2_leastToDo 8 = .ok (.aload_n 0, 1) := by decide +kernel
theorem dX2_leastToDo_9 : decode cX2_leastToDo 9 = .ok (.getfield 15, 3) := by decide +kernel
theorem dX2_leastToDo_12 : decode cX2_leastToDo 12 = .ok (.iload_n 1, 1) := by decide +kernel
theorem dX2_leastToDo_13 : decode cX2_leastToDo 13 = .ok (.baload, 1) := by decide +kernel
theorem dX2_leastToDo_14 : decode cX2_leastToDo 14 = .ok (.ifCond .eq 5, 3) := by decide +kernel
theorem dX2_leastToDo_17 : decode cX2_leastToDo 17 = .ok (.iload_n 1, 1) := by decide +kernel
theorem dX2_leastToDo_18 : decode cX2_leastToDo 18 = .ok (.ireturn, 1) := by decide +kernel
theorem dX2_leastToDo_19 : decode cX2_leastToDo 19 = .ok (.iinc 1 1, 3) := by decide +kernel
theorem dX2_leastToDo_22 : decode cX2_leastToDo 22 = .ok (.goto (-20), 3) := by decide +kernel
theorem dX2_leastToDo_25 : decode cX2_leastToDo 25 = .ok (.bipush (-2), 2) := by decide +kernel
theorem dX2_leastToDo_27 : decode cX2_leastToDo 27 = .ok (.ireturn, 1) := by decide +kernel
theorem dX3_init_0 : decode cX3_init 0 = .ok (.aload_n 0, 1) := by decide +kernel
theorem dX3_init_1 : decode cX3_init 1 = .ok (.invokespecial 3, 3) := by decide +kernel
theorem dX3_init_4 : decode cX3_init 4 = .ok (.aload_n 0, 1) := by decide +kernel
theorem dX3_init_5 : decode cX3_init 5 = .ok (.iconst 0, 1) := by decide +kernel
theorem dX3_init_6 : decode cX3_init 6 = .ok (.iload_n 1, 1) := by decide +kernel
theorem dX3_init_7 : decode cX3_init 7 = .ok (.invokestatic 9, 3) := by decide +kernel
theorem dX3_init_10 : decode cX3_init 10 = .ok (.newarray .int, 2) := by decide +kernel
theorem dX3_init_12 : decode cX3_init 12 = .ok (.putfield 15, 3) := by decide +kernel
theorem dX3_init_15 : decode cX3_init 15 = .ok (.return_, 1) := by decide +kernel
theorem dX3_count_0 : decode cX3_count 0 = .ok (.aload_n 0, 1) := by decide +kernel
theorem dX3_count_1 : decode cX3_count 1 = .ok (.getfield 21, 3) := by decide +kernel
theorem dX3_count_4 : decode cX3_count 4 = .ok (.ireturn, 1) := by decide +kernel
theorem dX3_holds_0 : decode cX3_holds 0 = .ok (.iload_n 1, 1) := by decide +kernel
theorem dX3_holds_1 : decode cX3_holds 1 = .ok (.ifCond .lt 29, 3) := by decide +kernel
theorem dX3_holds_4 : decode cX3_holds 4 = .ok (.iload_n 2, 1) := by decide +kernel
theorem dX3_holds_5 : decode cX3_holds 5 = .ok (.ifCond .lt 25, 3) := by decide +kernel
theorem dX3_holds_8 : decode cX3_holds 8 = .ok (.iload_n 2, 1) := by decide +kernel
theorem dX3_holds_9 : decode cX3_holds 9 = .ok (.aload_n 0, 1) := by decide +kernel
theorem dX3_holds_10 : decode cX3_holds 10 = .ok (.getfield 21, 3) := by decide +kernel
theorem dX3_holds_13 : decode cX3_holds 13 = .ok (.if_icmp .gt 17, 3) := by decide +kernel
theorem dX3_holds_16 : decode cX3_holds 16 = .ok (.iload_n 1, 1) := by decide +kernel
theorem dX3_holds_17 : decode cX3_holds 17 = .ok (.aload_n 0, 1) := by decide +kernel
theorem dX3_holds_18 : decode cX3_holds 18 = .ok (.getfield 21, 3) := by decide +kernel
theorem dX3_holds_21 : decode cX3_holds 21 = .ok (.iload_n 2, 1) := by decide +kernel
theorem dX3_holds_22 : decode cX3_holds 22 = .ok (.isub, 1) := by decide +kernel
theorem dX3_holds_23 : decode cX3_holds 23 = .ok (.if_icmp .gt 7, 3) := by decide +kernel
theorem dX3_holds_26 : decode cX3_holds 26 = .ok (.iconst 1, 1) := by decide +kernel
theorem dX3_holds_27 : decode cX3_holds 27 = .ok (.goto 4, 3) := by decide +kernel
theorem dX3_holds_30 : decode cX3_holds 30 = .ok (.iconst 0, 1) := by decide +kernel
theorem dX3_holds_31 : decode cX3_holds 31 = .ok (.ireturn, 1) := by decide +kernel
theorem dX3_get_0 : decode cX3_get 0 = .ok (.iload_n 1, 1) := by decide +kernel
theorem dX3_get_1 : decode cX3_get 1 = .ok (.ifCond .lt 20, 3) := by decide +kernel
theorem dX3_get_4 : decode cX3_get 4 = .ok (.iload_n 1, 1) := by decide +kernel
theorem dX3_get_5 : decode cX3_get 5 = .ok (.aload_n 0, 1) := by decide +kernel
theorem dX3_get_6 : decode cX3_get 6 = .ok (.getfield 21, 3) := by decide +kernel
theorem dX3_get_9 : decode cX3_get 9 = .ok (.if_icmp .ge 12, 3) := by decide +kernel
theorem dX3_get_12 : decode cX3_get 12 = .ok (.aload_n 0, 1) := by decide +kernel
theorem dX3_get_13 : decode cX3_get 13 = .ok (.getfield 15, 3) := by decide +kernel
theorem dX3_get_16 : decode cX3_get 16 = .ok (.iload_n 1, 1) := by decide +kernel
theorem dX3_get_17 : decode cX3_get 17 = .ok (.iaload, 1) := by decide +kernel
theorem dX3_get_18 : decode cX3_get 18 = .ok (.goto 4, 3) := by decide +kernel
theorem dX3_get_21 : decode cX3_get 21 = .ok (.iconst (-1), 1) := by decide +kernel
theorem dX3_get_22 : decode cX3_get 22 = .ok (.ireturn, 1) := by decide +kernel
theorem dX3_set_0 : decode cX3_set 0 = .ok (.iload_n 1, 1) := by decide +kernel
theorem dX3_set_1 : decode cX3_set 1 = .ok (.ifCond .lt 20, 3) := by decide +kernel
theorem dX3_set_4 : decode cX3_set 4 = .ok (.iload_n 1, 1) := by decide +kernel
theorem dX3_set_5 : decode cX3_set 5 = .ok (.aload_n 0, 1) := by decide +kernel
theorem dX3_set_6 : decode cX3_set 6 = .ok (.getfield 21, 3) := by decide +kernel
theorem dX3_set_9 : decode cX3_set 9 = .ok (.if_icmp .gt 12, 3) := by decide +kernel
theorem dX3_set_12 : decode cX3_set 12 = .ok (.iload_n 1, 1) := by decide +kernel
theorem dX3_set_13 : decode cX3_set 13 = .ok (.aload_n 0, 1) := by decide +kernel
theorem dX3_set_14 : decode cX3_set 14 = .ok (.getfield 15, 3) := by decide +kernel
theorem dX3_set_17 : decode cX3_set 17 = .ok (.arraylength, 1) := by decide +kernel
theorem dX3_set_18 : decode cX3_set 18 = .ok (.if_icmp .lt 4, 3) := by decide +kernel
theorem dX3_set_21 : decode cX3_set 21 = .ok (.return_, 1) := by decide +kernel
theorem dX3_set_22 : decode cX3_set 22 = .ok (.aload_n 0, 1) := by decide +kernel
theorem dX3_set_23 : decode cX3_set 23 = .ok (.getfield 15, 3) := by decide +kernel
theorem dX3_set_26 : decode cX3_set 26 = .ok (.iload_n 1, 1) := by decide +kernel
theorem dX3_set_27 : decode cX3_set 27 = .ok (.iload_n 2, 1) := by decide +kernel
theorem dX3_set_28 : decode cX3_set 28 = .ok (.iastore, 1) := by decide +kernel
theorem dX3_set_29 : decode cX3_set 29 = .ok (.iload_n 1, 1) := by decide +kernel
theorem dX3_set_30 : decode cX3_set 30 = .ok (.aload_n 0, 1) := by decide +kernel
theorem dX3_set_31 : decode cX3_set 31 = .ok (.getfield 21, 3) := by decide +kernel
theorem dX3_set_34 : decode cX3_set 34 = .ok (.if_icmp .ne 13, 3) := by decide +kernel
theorem dX3_set_37 : decode cX3_set 37 = .ok (.aload_n 0, 1) := by decide +kernel
theorem dX3_set_38 : decode cX3_set 38 = .ok (.dup, 1) := by decide +kernel
theorem dX3_set_39 : decode cX3_set 39 = .ok (.getfield 21, 3) := by decide +kernel
theorem dX3_set_42 : decode cX3_set 42 = .ok (.iconst 1, 1) := by decide +kernel
theorem dX3_set_43 : decode cX3_set 43 = .ok (.iadd, 1) := by decide +kernel
theorem dX3_set_44 : decode cX3_set 44 = .ok (.putfield 21, 3) := by decide +kernel
theorem dX3_set_47 : decode cX3_set 47 = .ok (.return_, 1) := by decide +kernel
theorem dX3_add_0 : decode cX3_add 0 = .ok (.aload_n 0, 1) := by decide +kernel
theorem dX3_add_1 : decode cX3_add 1 = .ok (.aload_n 0, 1) := by decide +kernel
theorem dX3_add_2 : decode cX3_add 2 = .ok (.getfield 21, 3) := by decide +kernel
theorem dX3_add_5 : decode cX3_add 5 = .ok (.iload_n 1, 1) := by decide +kernel
theorem dX3_add_6 : decode cX3_add 6 = .ok (.invokevirtual 25, 3) := by decide +kernel
theorem dX3_add_9 : decode cX3_add 9 = .ok (.return_, 1) := by decide +kernel
theorem dX3_addAll_0 : decode cX3_addAll 0 = .ok (.iconst 0, 1) := by decide +kernel
theorem dX3_addAll_1 : decode cX3_addAll 1 = .ok (.istore_n 2, 1) := by decide +kernel
theorem dX3_addAll_2 : decode cX3_addAll 2 = .ok (.iload_n 2, 1) := by decide +kernel
theorem dX3_addAll_3 : decode cX3_addAll 3 = .ok (.aload_n 1, 1) := by decide +kernel
theorem dX3_addAll_4 : decode cX3_addAll 4 = .ok (.getfield 21, 3) := by decide +kernel
theorem dX3_addAll_7 : decode cX3_addAll 7 = .ok (.if_icmp .ge 23, 3) := by decide +kernel
theorem dX3_addAll_10 : decode cX3_addAll 10 = .ok (.aload_n 0, 1) := by decide +kernel
theorem dX3_addAll_11 : decode cX3_addAll 11 = .ok (.aload_n 0, 1) := by decide +kernel
theorem dX3_addAll_12 : decode cX3_addAll 12 = .ok (.getfield 21, 3) := by decide +kernel
theorem dX3_addAll_15 : decode cX3_addAll 15 = .ok (.aload_n 1, 1) := by decide +kernel
theorem dX3_addAll_16 : decode cX3_addAll 16 = .ok (.getfield 15, 3) := by decide +kernel
theorem dX3_addAll_19 : decode cX3_addAll 19 = .ok (.iload_n 2, 1) := by decide +kernel
theorem dX3_addAll_20 : decode cX3_addAll 20 = .ok (.iaload, 1) := by decide +kernel
theorem dX3_addAll_21 : decode cX3_addAll 21 = .ok (.invokevirtual 25, 3) := by decide +kernel
theorem dX3_addAll_24 : decode cX3_addAll 24 = .ok (.iinc 2 1, 3) := by decide +kernel
theorem dX3_addAll_27 : decode cX3_addAll 27 = .ok (.goto (-25), 3) := by decide +kernel
theorem dX3_addAll_30 : decode cX3_addAll 30 = .ok (.return_, 1) := by decide +kernel
theorem dX3_keep_0 : decode cX3_keep 0 = .ok (.iload_n 1, 1) := by decide +kernel
theorem dX3_keep_1 : decode cX3_keep 1 = .ok (.ifCond .lt 16, 3) := by decide +kernel
theorem dX3_keep_4 : decode cX3_keep 4 = .ok (.iload_n 1, 1) := by decide +kernel
theorem dX3_keep_5 : decode cX3_keep 5 = .ok (.aload_n 0, 1) := by decide +kernel
theorem dX3_keep_6 : decode cX3_keep 6 = .ok (.getfield 21, 3) := by decide +kernel
theorem dX3_keep_9 : decode cX3_keep 9 = .ok (.if_icmp .ge 8, 3) := by decide +kernel
theorem dX3_keep_12 : decode cX3_keep 12 = .ok (.aload_n 0, 1) := by decide +kernel
theorem dX3_keep_13 : decode cX3_keep 13 = .ok (.iload_n 1, 1) := by decide +kernel
theorem dX3_keep_14 : decode cX3_keep 14 = .ok (.putfield 21, 3) := by decide +kernel
theorem dX3_keep_17 : decode cX3_keep 17 = .ok (.return_, 1) := by decide +kernel
theorem dX3_digestOf_0 : decode cX3_digestOf 0 = .ok (.ldc2_w 29, 3) := by decide +kernel
theorem dX3_digestOf_3 : decode cX3_digestOf 3 = .ok (.lstore_n 3, 1) := by decide +kernel
theorem dX3_digestOf_4 : decode cX3_digestOf 4 = .ok (.iload_n 1, 1) := by decide +kernel
theorem dX3_digestOf_5 : decode cX3_digestOf 5 = .ok (.istore 5, 2) := by decide +kernel
theorem dX3_digestOf_7 : decode cX3_digestOf 7 = .ok (.iload 5, 2) := by decide +kernel
theorem dX3_digestOf_9 : decode cX3_digestOf 9 = .ok (.ifCond .lt 41, 3) := by decide +kernel
theorem dX3_digestOf_12 : decode cX3_digestOf 12 = .ok (.iload 5, 2) := by decide +kernel
theorem dX3_digestOf_14 : decode cX3_digestOf 14 = .ok (.iload_n 1, 1) := by decide +kernel
theorem dX3_digestOf_15 : decode cX3_digestOf 15 = .ok (.iload_n 2, 1) := by decide +kernel
theorem dX3_digestOf_16 : decode cX3_digestOf 16 = .ok (.iadd, 1) := by decide +kernel
theorem dX3_digestOf_17 : decode cX3_digestOf 17 = .ok (.if_icmp .ge 33, 3) := by decide +kernel
theorem dX3_digestOf_20 : decode cX3_digestOf 20 = .ok (.iload 5, 2) := by decide +kernel
theorem dX3_digestOf_22 : decode cX3_digestOf 22 = .ok (.aload_n 0, 1) := by decide +kernel
theorem dX3_digestOf_23 : decode cX3_digestOf 23 = .ok (.getfield 21, 3) := by decide +kernel
theorem dX3_digestOf_26 : decode cX3_digestOf 26 = .ok (.if_icmp .ge 24, 3) := by decide +kernel
theorem dX3_digestOf_29 : decode cX3_digestOf 29 = .ok (.lload_n 3, 1) := by decide +kernel
theorem dX3_digestOf_30 : decode cX3_digestOf 30 = .ok (.aload_n 0, 1) := by decide +kernel
theorem dX3_digestOf_31 : decode cX3_digestOf 31 = .ok (.getfield 15, 3) := by decide +kernel
theorem dX3_digestOf_34 : decode cX3_digestOf 34 = .ok (.iload 5, 2) := by decide +kernel
theorem dX3_digestOf_36 : decode cX3_digestOf 36 = .ok (.iaload, 1) := by decide +kernel
theorem dX3_digestOf_37 : decode cX3_digestOf 37 = .ok (.i2l, 1) := by decide +kernel
theorem dX3_digestOf_38 : decode cX3_digestOf 38 = .ok (.lxor, 1) := by decide +kernel
theorem dX3_digestOf_39 : decode cX3_digestOf 39 = .ok (.ldc2_w 31, 3) := by decide +kernel
theorem dX3_digestOf_42 : decode cX3_digestOf 42 = .ok (.lmul, 1) := by decide +kernel
theorem dX3_digestOf_43 : decode cX3_digestOf 43 = .ok (.lstore_n 3, 1) := by decide +kernel
theorem dX3_digestOf_44 : decode cX3_digestOf 44 = .ok (.iinc 5 1, 3) := by decide +kernel
theorem dX3_digestOf_47 : decode cX3_digestOf 47 = .ok (.goto (-40), 3) := by decide +kernel
theorem dX3_digestOf_50 : decode cX3_digestOf 50 = .ok (.lload_n 3, 1) := by decide +kernel
theorem dX3_digestOf_51 : decode cX3_digestOf 51 = .ok (.lreturn, 1) := by decide +kernel
theorem dX3_weakOf_0 : decode cX3_weakOf 0 = .ok (.iconst 0, 1) := by decide +kernel
theorem dX3_weakOf_1 : decode cX3_weakOf 1 = .ok (.istore_n 3, 1) := by decide +kernel
theorem dX3_weakOf_2 : decode cX3_weakOf 2 = .ok (.iconst 0, 1) := by decide +kernel
theorem dX3_weakOf_3 : decode cX3_weakOf 3 = .ok (.istore 4, 2) := by decide +kernel
theorem dX3_weakOf_5 : decode cX3_weakOf 5 = .ok (.iload_n 1, 1) := by decide +kernel
theorem dX3_weakOf_6 : decode cX3_weakOf 6 = .ok (.istore 5, 2) := by decide +kernel
theorem dX3_weakOf_8 : decode cX3_weakOf 8 = .ok (.iload 5, 2) := by decide +kernel
theorem dX3_weakOf_10 : decode cX3_weakOf 10 = .ok (.ifCond .lt 55, 3) := by decide +kernel
theorem dX3_weakOf_13 : decode cX3_weakOf 13 = .ok (.iload 5, 2) := by decide +kernel
theorem dX3_weakOf_15 : decode cX3_weakOf 15 = .ok (.iload_n 1, 1) := by decide +kernel
theorem dX3_weakOf_16 : decode cX3_weakOf 16 = .ok (.iload_n 2, 1) := by decide +kernel
theorem dX3_weakOf_17 : decode cX3_weakOf 17 = .ok (.iadd, 1) := by decide +kernel
theorem dX3_weakOf_18 : decode cX3_weakOf 18 = .ok (.if_icmp .ge 47, 3) := by decide +kernel
theorem dX3_weakOf_21 : decode cX3_weakOf 21 = .ok (.iload 5, 2) := by decide +kernel
theorem dX3_weakOf_23 : decode cX3_weakOf 23 = .ok (.aload_n 0, 1) := by decide +kernel
theorem dX3_weakOf_24 : decode cX3_weakOf 24 = .ok (.getfield 21, 3) := by decide +kernel
theorem dX3_weakOf_27 : decode cX3_weakOf 27 = .ok (.if_icmp .ge 38, 3) := by decide +kernel
theorem dX3_weakOf_30 : decode cX3_weakOf 30 = .ok (.iload_n 3, 1) := by decide +kernel
theorem dX3_weakOf_31 : decode cX3_weakOf 31 = .ok (.aload_n 0, 1) := by decide +kernel
theorem dX3_weakOf_32 : decode cX3_weakOf 32 = .ok (.getfield 15, 3) := by decide +kernel
theorem dX3_weakOf_35 : decode cX3_weakOf 35 = .ok (.iload 5, 2) := by decide +kernel
theorem dX3_weakOf_37 : decode cX3_weakOf 37 = .ok (.iaload, 1) := by decide +kernel
theorem dX3_weakOf_38 : decode cX3_weakOf 38 = .ok (.iadd, 1) := by decide +kernel
theorem dX3_weakOf_39 : decode cX3_weakOf 39 = .ok (.istore_n 3, 1) := by decide +kernel
theorem dX3_weakOf_40 : decode cX3_weakOf 40 = .ok (.iload 4, 2) := by decide +kernel
theorem dX3_weakOf_42 : decode cX3_weakOf 42 = .ok (.iload_n 1, 1) := by decide +kernel
theorem dX3_weakOf_43 : decode cX3_weakOf 43 = .ok (.iload_n 2, 1) := by decide +kernel
theorem dX3_weakOf_44 : decode cX3_weakOf 44 = .ok (.iadd, 1) := by decide +kernel
theorem dX3_weakOf_45 : decode cX3_weakOf 45 = .ok (.iload 5, 2) := by decide +kernel
theorem dX3_weakOf_47 : decode cX3_weakOf 47 = .ok (.isub, 1) := by decide +kernel
theorem dX3_weakOf_48 : decode cX3_weakOf 48 = .ok (.aload_n 0, 1) := by decide +kernel
theorem dX3_weakOf_49 : decode cX3_weakOf 49 = .ok (.getfield 15, 3) := by decide +kernel
theorem dX3_weakOf_52 : decode cX3_weakOf 52 = .ok (.iload 5, 2) := by decide +kernel
theorem dX3_weakOf_54 : decode cX3_weakOf 54 = .ok (.iaload, 1) := by decide +kernel
theorem dX3_weakOf_55 : decode cX3_weakOf 55 = .ok (.imul, 1) := by decide +kernel
theorem dX3_weakOf_56 : decode cX3_weakOf 56 = .ok (.iadd, 1) := by decide +kernel
theorem dX3_weakOf_57 : decode cX3_weakOf 57 = .ok (.istore 4, 2) := by decide +kernel
theorem dX3_weakOf_59 : decode cX3_weakOf 59 = .ok (.iinc 5 1, 3) := by decide +kernel
theorem dX3_weakOf_62 : decode cX3_weakOf 62 = .ok (.goto (-54), 3) := by decide +kernel
theorem dX3_weakOf_65 : decode cX3_weakOf 65 = .ok (.iload 4, 2) := by decide +kernel
theorem dX3_weakOf_67 : decode cX3_weakOf 67 = .ok (.i2l, 1) := by decide +kernel
theorem dX3_weakOf_68 : decode cX3_weakOf 68 = .ok (.ldc2_w 33, 3) := by decide +kernel
theorem dX3_weakOf_71 : decode cX3_weakOf 71 = .ok (.land, 1) := by decide +kernel
theorem dX3_weakOf_72 : decode cX3_weakOf 72 = .ok (.bipush 16, 2) := by decide +kernel
theorem dX3_weakOf_74 : decode cX3_weakOf 74 = .ok (.lshl, 1) := by decide +kernel
theorem dX3_weakOf_75 : decode cX3_weakOf 75 = .ok (.iload_n 3, 1) := by decide +kernel
theorem dX3_weakOf_76 : decode cX3_weakOf 76 = .ok (.i2l, 1) := by decide +kernel
theorem dX3_weakOf_77 : decode cX3_weakOf 77 = .ok (.ldc2_w 33, 3) := by decide +kernel
theorem dX3_weakOf_80 : decode cX3_weakOf 80 = .ok (.land, 1) := by decide +kernel
theorem dX3_weakOf_81 : decode cX3_weakOf 81 = .ok (.lor, 1) := by decide +kernel
theorem dX3_weakOf_82 : decode cX3_weakOf 82 = .ok (.lreturn, 1) := by decide +kernel
theorem dX4_init_0 : decode cX4_init 0 = .ok (.aload_n 0, 1) := by decide +kernel
theorem dX4_init_1 : decode cX4_init 1 = .ok (.invokespecial 3, 3) := by decide +kernel
theorem dX4_init_4 : decode cX4_init 4 = .ok (.aload_n 0, 1) := by decide +kernel
theorem dX4_init_5 : decode cX4_init 5 = .ok (.new 9, 3) := by decide +kernel
theorem dX4_init_8 : decode cX4_init 8 = .ok (.dup, 1) := by decide +kernel
theorem dX4_init_9 : decode cX4_init 9 = .ok (.invokespecial 11, 3) := by decide +kernel
theorem dX4_init_12 : decode cX4_init 12 = .ok (.putfield 12, 3) := by decide +kernel
theorem dX4_init_15 : decode cX4_init 15 = .ok (.aload_n 0, 1) := by decide +kernel
theorem dX4_init_16 : decode cX4_init 16 = .ok (.iconst 0, 1) := by decide +kernel
theorem dX4_init_17 : decode cX4_init 17 = .ok (.putfield 18, 3) := by decide +kernel
theorem dX4_init_20 : decode cX4_init 20 = .ok (.aload_n 0, 1) := by decide +kernel
theorem dX4_init_21 : decode cX4_init 21 = .ok (.bipush (-2), 2) := by decide +kernel
theorem dX4_init_23 : decode cX4_init 23 = .ok (.putfield 22, 3) := by decide +kernel
theorem dX4_init_26 : decode cX4_init 26 = .ok (.aload_n 0, 1) := by decide +kernel
theorem dX4_init_27 : decode cX4_init 27 = .ok (.aload_n 1, 1) := by decide +kernel
theorem dX4_init_28 : decode cX4_init 28 = .ok (.putfield 25, 3) := by decide +kernel
theorem dX4_init_31 : decode cX4_init 31 = .ok (.aload_n 0, 1) := by decide +kernel
theorem dX4_init_32 : decode cX4_init 32 = .ok (.aload_n 2, 1) := by decide +kernel
theorem dX4_init_33 : decode cX4_init 33 = .ok (.putfield 29, 3) := by decide +kernel
theorem dX4_init_36 : decode cX4_init 36 = .ok (.aload_n 0, 1) := by decide +kernel
theorem dX4_init_37 : decode cX4_init 37 = .ok (.aload_n 3, 1) := by decide +kernel
theorem dX4_init_38 : decode cX4_init 38 = .ok (.putfield 32, 3) := by decide +kernel
theorem dX4_init_41 : decode cX4_init 41 = .ok (.aload_n 0, 1) := by decide +kernel
theorem dX4_init_42 : decode cX4_init 42 = .ok (.new 36, 3) := by decide +kernel
theorem dX4_init_45 : decode cX4_init 45 = .ok (.dup, 1) := by decide +kernel
theorem dX4_init_46 : decode cX4_init 46 = .ok (.aload_n 1, 1) := by decide +kernel
theorem dX4_init_47 : decode cX4_init 47 = .ok (.invokespecial 38, 3) := by decide +kernel
theorem dX4_init_50 : decode cX4_init 50 = .ok (.putfield 41, 3) := by decide +kernel
theorem dX4_init_53 : decode cX4_init 53 = .ok (.aload_n 0, 1) := by decide +kernel
theorem dX4_init_54 : decode cX4_init 54 = .ok (.new 45, 3) := by decide +kernel
theorem dX4_init_57 : decode cX4_init 57 = .ok (.dup, 1) := by decide +kernel
theorem dX4_init_58 : decode cX4_init 58 = .ok (.aload_n 2, 1) := by decide +kernel
theorem dX4_init_59 : decode cX4_init 59 = .ok (.invokespecial 47, 3) := by decide +kernel
theorem dX4_init_62 : decode cX4_init 62 = .ok (.putfield 48, 3) := by decide +kernel
theorem dX4_init_65 : decode cX4_init 65 = .ok (.return_, 1) := by decide +kernel
theorem dX4_goes_0 : decode cX4_goes 0 = .ok (.aload_n 0, 1) := by decide +kernel
theorem dX4_goes_1 : decode cX4_goes 1 = .ok (.getfield 18, 3) := by decide +kernel
theorem dX4_goes_4 : decode cX4_goes 4 = .ok (.iconst 1, 1) := by decide +kernel
theorem dX4_goes_5 : decode cX4_goes 5 = .ok (.if_icmp .ne 7, 3) := by decide +kernel
theorem dX4_goes_8 : decode cX4_goes 8 = .ok (.iconst 1, 1) := by decide +kernel
theorem dX4_goes_9 : decode cX4_goes 9 = .ok (.goto 4, 3) := by decide +kernel
theorem dX4_goes_12 : decode cX4_goes 12 = .ok (.iconst 0, 1) := by decide +kernel
theorem dX4_goes_13 : decode cX4_goes 13 = .ok (.ireturn, 1) := by decide +kernel
theorem dX4_start_0 : decode cX4_start 0 = .ok (.aload_n 0, 1) := by decide +kernel
theorem dX4_start_1 : decode cX4_start 1 = .ok (.iconst 1, 1) := by decide +kernel
theorem dX4_start_2 : decode cX4_start 2 = .ok (.putfield 18, 3) := by decide +kernel
theorem dX4_start_5 : decode cX4_start 5 = .ok (.aload_n 0, 1) := by decide +kernel
theorem dX4_start_6 : decode cX4_start 6 = .ok (.iload_n 1, 1) := by decide +kernel
theorem dX4_start_7 : decode cX4_start 7 = .ok (.putfield 52, 3) := by decide +kernel
theorem dX4_start_10 : decode cX4_start 10 = .ok (.aload_n 0, 1) := by decide +kernel
theorem dX4_start_11 : decode cX4_start 11 = .ok (.getfield 41, 3) := by decide +kernel
theorem dX4_start_14 : decode cX4_start 14 = .ok (.aload_n 0, 1) := by decide +kernel
theorem dX4_start_15 : decode cX4_start 15 = .ok (.getfield 52, 3) := by decide +kernel
theorem dX4_start_18 : decode cX4_start 18 = .ok (.ifCond .ne 10, 3) := by decide +kernel
theorem dX4_start_21 : decode cX4_start 21 = .ok (.aload_n 0, 1) := by decide +kernel
theorem dX4_start_22 : decode cX4_start 22 = .ok (.getfield 25, 3) := by decide +kernel
theorem dX4_start_25 : decode cX4_start 25 = .ok (.goto 7, 3) := by decide +kernel
theorem dX4_start_28 : decode cX4_start 28 = .ok (.aload_n 0, 1) := by decide +kernel
theorem dX4_start_29 : decode cX4_start 29 = .ok (.getfield 29, 3) := by decide +kernel
theorem dX4_start_32 : decode cX4_start 32 = .ok (.invokevirtual 55, 3) := by decide +kernel
theorem dX4_start_35 : decode cX4_start 35 = .ok (.aload_n 0, 1) := by decide +kernel
theorem dX4_start_36 : decode cX4_start 36 = .ok (.getfield 48, 3) := by decide +kernel
theorem dX4_start_39 : decode cX4_start 39 = .ok (.aload_n 0, 1) := by decide +kernel
theorem dX4_start_40 : decode cX4_start 40 = .ok (.getfield 52, 3) := by decide +kernel
theorem dX4_start_43 : decode cX4_start 43 = .ok (.ifCond .ne 10, 3) := by decide +kernel
theorem dX4_start_46 : decode cX4_start 46 = .ok (.aload_n 0, 1) := by decide +kernel
theorem dX4_start_47 : decode cX4_start 47 = .ok (.getfield 29, 3) := by decide +kernel
theorem dX4_start_50 : decode cX4_start 50 = .ok (.goto 7, 3) := by decide +kernel
theorem dX4_start_53 : decode cX4_start 53 = .ok (.aload_n 0, 1) := by decide +kernel
theorem dX4_start_54 : decode cX4_start 54 = .ok (.getfield 25, 3) := by decide +kernel
theorem dX4_start_57 : decode cX4_start 57 = .ok (.iload_n 2, 1) := by decide +kernel
theorem dX4_start_58 : decode cX4_start 58 = .ok (.iload_n 3, 1) := by decide +kernel
theorem dX4_start_59 : decode cX4_start 59 = .ok (.iload 4, 2) := by decide +kernel
theorem dX4_start_61 : decode cX4_start 61 = .ok (.invokevirtual 58, 3) := by decide +kernel
theorem dX4_start_64 : decode cX4_start 64 = .ok (.aload_n 0, 1) := by decide +kernel
theorem dX4_start_65 : decode cX4_start 65 = .ok (.getfield 12, 3) := by decide +kernel
theorem dX4_start_68 : decode cX4_start 68 = .ok (.bipush (-2), 2) := by decide +kernel
theorem dX4_start_70 : decode cX4_start 70 = .ok (.iconst 0, 1) := by decide +kernel
theorem dX4_start_71 : decode cX4_start 71 = .ok (.invokevirtual 61, 3) := by decide +kernel
theorem dX4_start_74 : decode cX4_start 74 = .ok (.aload_n 0, 1) := by decide +kernel
theorem dX4_start_75 : decode cX4_start 75 = .ok (.iconst 0, 1) := by decide +kernel
theorem dX4_start_76 : decode cX4_start 76 = .ok (.putfield 65, 3) := by decide +kernel
theorem dX4_start_79 : decode cX4_start 79 = .ok (.aload_n 0, 1) := by decide +kernel
theorem dX4_start_80 : decode cX4_start 80 = .ok (.iconst 0, 1) := by decide +kernel
theorem dX4_start_81 : decode cX4_start 81 = .ok (.putfield 69, 3) := by decide +kernel
theorem dX4_start_84 : decode cX4_start 84 = .ok (.aload_n 0, 1) := by decide +kernel
theorem dX4_start_85 : decode cX4_start 85 = .ok (.iconst 0, 1) := by decide +kernel
theorem dX4_start_86 : decode cX4_start 86 = .ok (.putfield 72, 3) := by decide +kernel
theorem dX4_start_89 : decode cX4_start 89 = .ok (.aload_n 0, 1) := by decide +kernel
theorem dX4_start_90 : decode cX4_start 90 = .ok (.iconst 0, 1) := by decide +kernel
theorem dX4_start_91 : decode cX4_start 91 = .ok (.putfield 75, 3) := by decide +kernel
theorem dX4_start_94 : decode cX4_start 94 = .ok (.aload_n 0, 1) := by decide +kernel
theorem dX4_start_95 : decode cX4_start 95 = .ok (.iconst 0, 1) := by decide +kernel
theorem dX4_start_96 : decode cX4_start 96 = .ok (.putfield 78, 3) := by decide +kernel
theorem dX4_start_99 : decode cX4_start 99 = .ok (.aload_n 0, 1) := by decide +kernel
theorem dX4_start_100 : decode cX4_start 100 = .ok (.iconst 0, 1) := by decide +kernel
theorem dX4_start_101 : decode cX4_start 101 = .ok (.putfield 81, 3) := by decide +kernel
theorem dX4_start_104 : decode cX4_start 104 = .ok (.aload_n 0, 1) := by decide +kernel
theorem dX4_start_105 : decode cX4_start 105 = .ok (.bipush (-2), 2) := by decide +kernel
theorem dX4_start_107 : decode cX4_start 107 = .ok (.putfield 22, 3) := by decide +kernel
theorem dX4_start_110 : decode cX4_start 110 = .ok (.return_, 1) := by decide +kernel
theorem dX4_stop_0 : decode cX4_stop 0 = .ok (.aload_n 0, 1) := by decide +kernel
theorem dX4_stop_1 : decode cX4_stop 1 = .ok (.iconst 3, 1) := by decide +kernel
theorem dX4_stop_2 : decode cX4_stop 2 = .ok (.putfield 18, 3) := by decide +kernel
theorem dX4_stop_5 : decode cX4_stop 5 = .ok (.aload_n 0, 1) := by decide +kernel
theorem dX4_stop_6 : decode cX4_stop 6 = .ok (.getfield 48, 3) := by decide +kernel
theorem dX4_stop_9 : decode cX4_stop 9 = .ok (.invokevirtual 84, 3) := by decide +kernel
theorem dX4_stop_12 : decode cX4_stop 12 = .ok (.aload_n 0, 1) := by decide +kernel
theorem dX4_stop_13 : decode cX4_stop 13 = .ok (.getfield 72, 3) := by decide +kernel
theorem dX4_stop_16 : decode cX4_stop 16 = .ok (.ireturn, 1) := by decide +kernel
theorem dX4_oneStep_0 : decode cX4_oneStep 0 = .ok (.aload_n 0, 1) := by decide +kernel
theorem dX4_oneStep_1 : decode cX4_oneStep 1 = .ok (.dup, 1) := by decide +kernel
theorem dX4_oneStep_2 : decode cX4_oneStep 2 = .ok (.getfield 72, 3) := by decide +kernel
theorem dX4_oneStep_5 : decode cX4_oneStep 5 = .ok (.iconst 1, 1) := by decide +kernel
theorem dX4_oneStep_6 : decode cX4_oneStep 6 = .ok (.iadd, 1) := by decide +kernel
theorem dX4_oneStep_7 : decode cX4_oneStep 7 = .ok (.putfield 72, 3) := by decide +kernel
theorem dX4_oneStep_10 : decode cX4_oneStep 10 = .ok (.aload_n 0, 1) := by decide +kernel
theorem dX4_oneStep_11 : decode cX4_oneStep 11 = .ok (.getfield 69, 3) := by decide +kernel
theorem dX4_oneStep_14 : decode cX4_oneStep 14 = .ok (.ifCond .le 14, 3) := by decide +kernel
theorem dX4_oneStep_17 : decode cX4_oneStep 17 = .ok (.aload_n 0, 1) := by decide +kernel
theorem dX4_oneStep_18 : decode cX4_oneStep 18 = .ok (.dup, 1) := by decide +kernel
theorem dX4_oneStep_19 : decode cX4_oneStep 19 = .ok (.getfield 69, 3) := by decide +kernel
theorem dX4_oneStep_22 : decode cX4_oneStep 22 = .ok (.iconst 1, 1) := by decide +kernel
theorem dX4_oneStep_23 : decode cX4_oneStep 23 = .ok (.isub, 1) := by decide +kernel
theorem dX4_oneStep_24 : decode cX4_oneStep 24 = .ok (.putfield 69, 3) := by decide +kernel
theorem dX4_oneStep_27 : decode cX4_oneStep 27 = .ok (.return_, 1) := by decide +kernel
theorem dX4_oneStep_28 : decode cX4_oneStep 28 = .ok (.aload_n 0, 1) := by decide +kernel
theorem dX4_oneStep_29 : decode cX4_oneStep 29 = .ok (.getfield 65, 3) := by decide +kernel
theorem dX4_oneStep_32 : decode cX4_oneStep 32 = .ok (.ifCond .ne 7, 3) := by decide +kernel
theorem dX4_oneStep_35 : decode cX4_oneStep 35 = .ok (.aload_n 0, 1) := by decide +kernel
theorem dX4_oneStep_36 : decode cX4_oneStep 36 = .ok (.invokevirtual 87, 3) := by decide +kernel
theorem dX4_oneStep_39 : decode cX4_oneStep 39 = .ok (.aload_n 0, 1) := by decide +kernel
theorem dX4_oneStep_40 : decode cX4_oneStep 40 = .ok (.invokevirtual 90, 3) := by decide +kernel
theorem dX4_oneStep_43 : decode cX4_oneStep 43 = .ok (.aload_n 0, 1) := by decide +kernel
theorem dX4_oneStep_44 : decode cX4_oneStep 44 = .ok (.getfield 65, 3) := by decide +kernel
theorem dX4_oneStep_47 : decode cX4_oneStep 47 = .ok (.ifCond .eq 21, 3) := by decide +kernel
theorem dX4_oneStep_50 : decode cX4_oneStep 50 = .ok (.aload_n 0, 1) := by decide +kernel
theorem dX4_oneStep_51 : decode cX4_oneStep 51 = .ok (.dup, 1) := by decide +kernel
theorem dX4_oneStep_52 : decode cX4_oneStep 52 = .ok (.getfield 78, 3) := by decide +kernel
theorem dX4_oneStep_55 : decode cX4_oneStep 55 = .ok (.iconst 1, 1) := by decide +kernel
theorem dX4_oneStep_56 : decode cX4_oneStep 56 = .ok (.iadd, 1) := by decide +kernel
theorem dX4_oneStep_57 : decode cX4_oneStep 57 = .ok (.putfield 78, 3) := by decide +kernel
theorem dX4_oneStep_60 : decode cX4_oneStep 60 = .ok (.aload_n 0, 1) := by decide +kernel
theorem dX4_oneStep_61 : decode cX4_oneStep 61 = .ok (.iconst 2, 1) := by decide +kernel
theorem dX4_oneStep_62 : decode cX4_oneStep 62 = .ok (.putfield 69, 3) := by decide +kernel
theorem dX4_oneStep_65 : decode cX4_oneStep 65 = .ok (.goto 11, 3) := by decide +kernel
theorem dX4_oneStep_68 : decode cX4_oneStep 68 = .ok (.aload_n 0, 1) := by decide +kernel
theorem dX4_oneStep_69 : decode cX4_oneStep 69 = .ok (.invokevirtual 93, 3) := by decide +kernel
theorem dX4_oneStep_72 : decode cX4_oneStep 72 = .ok (.aload_n 0, 1) := by decide +kernel
theorem dX4_oneStep_73 : decode cX4_oneStep 73 = .ok (.invokevirtual 96, 3) := by decide +kernel
theorem dX4_oneStep_76 : decode cX4_oneStep 76 = .ok (.return_, 1) := by decide +kernel
theorem dX4_tell_0 : decode cX4_tell 0 = .ok (.iload_n 1, 1) := by decide +kernel
theorem dX4_tell_1 : decode cX4_tell 1 = .ok (.tableswitch 192 0 15 #[79, 84, 89, 94, 99, 107, 115, 123, 131, 139, 147, 155, 163, 168, 179, 184], 79) := by decide +kernel
theorem dX4_tell_80 : decode cX4_tell 80 = .ok (.aload_n 0, 1) := by decide +kernel
theorem dX4_tell_81 : decode cX4_tell 81 = .ok (.getfield 18, 3) := by decide +kernel
theorem dX4_tell_84 : decode cX4_tell 84 = .ok (.ireturn, 1) := by decide +kernel
theorem dX4_tell_85 : decode cX4_tell 85 = .ok (.aload_n 0, 1) := by decide +kernel
theorem dX4_tell_86 : decode cX4_tell 86 = .ok (.getfield 72, 3) := by decide +kernel
theorem dX4_tell_89 : decode cX4_tell 89 = .ok (.ireturn, 1) := by decide +kernel
theorem dX4_tell_90 : decode cX4_tell 90 = .ok (.aload_n 0, 1) := by decide +kernel
theorem dX4_tell_91 : decode cX4_tell 91 = .ok (.getfield 75, 3) := by decide +kernel
theorem dX4_tell_94 : decode cX4_tell 94 = .ok (.ireturn, 1) := by decide +kernel
theorem dX4_tell_95 : decode cX4_tell 95 = .ok (.aload_n 0, 1) := by decide +kernel
theorem dX4_tell_96 : decode cX4_tell 96 = .ok (.getfield 78, 3) := by decide +kernel
theorem dX4_tell_99 : decode cX4_tell 99 = .ok (.ireturn, 1) := by decide +kernel
theorem dX4_tell_100 : decode cX4_tell 100 = .ok (.aload_n 0, 1) := by decide +kernel
theorem dX4_tell_101 : decode cX4_tell 101 = .ok (.getfield 48, 3) := by decide +kernel
theorem dX4_tell_104 : decode cX4_tell 104 = .ok (.invokevirtual 99, 3) := by decide +kernel
theorem dX4_tell_107 : decode cX4_tell 107 = .ok (.ireturn, 1) := by decide +kernel
theorem dX4_tell_108 : decode cX4_tell 108 = .ok (.aload_n 0, 1) := by decide +kernel
theorem dX4_tell_109 : decode cX4_tell 109 = .ok (.getfield 48, 3) := by decide +kernel
theorem dX4_tell_112 : decode cX4_tell 112 = .ok (.getfield 103, 3) := by decide +kernel
theorem dX4_tell_115 : decode cX4_tell 115 = .ok (.ireturn, 1) := by decide +kernel
theorem dX4_tell_116 : decode cX4_tell 116 = .ok (.aload_n 0, 1) := by decide +kernel
theorem dX4_tell_117 : decode cX4_tell 117 = .ok (.getfield 48, 3) := by decide +kernel
theorem dX4_tell_120 : decode cX4_tell 120 = .ok (.getfield 106, 3) := by decide +kernel
theorem dX4_tell_123 : decode cX4_tell 123 = .ok (.ireturn, 1) := by decide +kernel
theorem dX4_tell_124 : decode cX4_tell 124 = .ok (.aload_n 0, 1) := by decide +kernel
theorem dX4_tell_125 : decode cX4_tell 125 = .ok (.getfield 48, 3) := by decide +kernel
theorem dX4_tell_128 : decode cX4_tell 128 = .ok (.getfield 109, 3) := by decide +kernel
theorem dX4_tell_131 : decode cX4_tell 131 = .ok (.ireturn, 1) := by decide +kernel
theorem dX4_tell_132 : decode cX4_tell 132 = .ok (.aload_n 0, 1) := by decide +kernel
theorem dX4_tell_133 : decode cX4_tell 133 = .ok (.getfield 48, 3) := by decide +kernel
theorem dX4_tell_136 : decode cX4_tell 136 = .ok (.getfield 112, 3) := by decide +kernel
theorem dX4_tell_139 : decode cX4_tell 139 = .ok (.ireturn, 1) := by decide +kernel
theorem dX4_tell_140 : decode cX4_tell 140 = .ok (.aload_n 0, 1) := by decide +kernel
theorem dX4_tell_141 : decode cX4_tell 141 = .ok (.getfield 48, 3) := by decide +kernel
theorem dX4_tell_144 : decode cX4_tell 144 = .ok (.getfield 115, 3) := by decide +kernel
theorem dX4_tell_147 : decode cX4_tell 147 = .ok (.ireturn, 1) := by decide +kernel
theorem dX4_tell_148 : decode cX4_tell 148 = .ok (.aload_n 0, 1) := by decide +kernel
theorem dX4_tell_149 : decode cX4_tell 149 = .ok (.getfield 41, 3) := by decide +kernel
theorem dX4_tell_152 : decode cX4_tell 152 = .ok (.getfield 118, 3) := by decide +kernel
theorem dX4_tell_155 : decode cX4_tell 155 = .ok (.ireturn, 1) := by decide +kernel
theorem dX4_tell_156 : decode cX4_tell 156 = .ok (.aload_n 0, 1) := by decide +kernel
theorem dX4_tell_157 : decode cX4_tell 157 = .ok (.getfield 41, 3) := by decide +kernel
theorem dX4_tell_160 : decode cX4_tell 160 = .ok (.getfield 121, 3) := by decide +kernel
theorem dX4_tell_163 : decode cX4_tell 163 = .ok (.ireturn, 1) := by decide +kernel
theorem dX4_tell_164 : decode cX4_tell 164 = .ok (.aload_n 0, 1) := by decide +kernel
theorem dX4_tell_165 : decode cX4_tell 165 = .ok (.getfield 81, 3) := by decide +kernel
theorem dX4_tell_168 : decode cX4_tell 168 = .ok (.ireturn, 1) := by decide +kernel
theorem dX4_tell_169 : decode cX4_tell 169 = .ok (.aload_n 0, 1) := by decide +kernel
theorem dX4_tell_170 : decode cX4_tell 170 = .ok (.getfield 48, 3) := by decide +kernel
theorem dX4_tell_173 : decode cX4_tell 173 = .ok (.getfield 124, 3) := by decide +kernel
theorem dX4_tell_176 : decode cX4_tell 176 = .ok (.invokevirtual 128, 3) := by decide +kernel
theorem dX4_tell_179 : decode cX4_tell 179 = .ok (.ireturn, 1) := by decide +kernel
theorem dX4_tell_180 : decode cX4_tell 180 = .ok (.aload_n 0, 1) := by decide +kernel
theorem dX4_tell_181 : decode cX4_tell 181 = .ok (.getfield 22, 3) := by decide +kernel
theorem dX4_tell_184 : decode cX4_tell 184 = .ok (.ireturn, 1) := by decide +kernel
theorem dX4_tell_185 : decode cX4_tell 185 = .ok (.aload_n 0, 1) := by decide +kernel
theorem dX4_tell_186 : decode cX4_tell 186 = .ok (.getfield 48, 3) := by decide +kernel
theorem dX4_tell_189 : decode cX4_tell 189 = .ok (.getfield 133, 3) := by decide +kernel
theorem dX4_tell_192 : decode cX4_tell 192 = .ok (.ireturn, 1) := by decide +kernel
theorem dX4_tell_193 : decode cX4_tell 193 = .ok (.iconst (-1), 1) := by decide +kernel
theorem dX4_tell_194 : decode cX4_tell 194 = .ok (.ireturn, 1) := by decide +kernel
theorem dX4_builtByte_0 : decode cX4_builtByte 0 = .ok (.aload_n 0, 1) := by decide +kernel
theorem dX4_builtByte_1 : decode cX4_builtByte 1 = .ok (.getfield 48, 3) := by decide +kernel
theorem dX4_builtByte_4 : decode cX4_builtByte 4 = .ok (.getfield 124, 3) := by decide +kernel
theorem dX4_builtByte_7 : decode cX4_builtByte 7 = .ok (.iload_n 1, 1) := by decide +kernel
theorem dX4_builtByte_8 : decode cX4_builtByte 8 = .ok (.invokevirtual 136, 3) := by decide +kernel
theorem dX4_builtByte_11 : decode cX4_builtByte 11 = .ok (.ireturn, 1) := by decide +kernel
theorem dX4_sumOf_0 : decode cX4_sumOf 0 = .ok (.aload_n 0, 1) := by decide +kernel
theorem dX4_sumOf_1 : decode cX4_sumOf 1 = .ok (.getfield 41, 3) := by decide +kernel
theorem dX4_sumOf_4 : decode cX4_sumOf 4 = .ok (.getfield 140, 3) := by decide +kernel
theorem dX4_sumOf_7 : decode cX4_sumOf 7 = .ok (.iload_n 1, 1) := by decide +kernel
theorem dX4_sumOf_8 : decode cX4_sumOf 8 = .ok (.iload_n 2, 1) := by decide +kernel
theorem dX4_sumOf_9 : decode cX4_sumOf 9 = .ok (.invokevirtual 144, 3) := by decide +kernel
theorem dX4_sumOf_12 : decode cX4_sumOf 12 = .ok (.lreturn, 1) := by decide +kernel
theorem dX4_makeMessage_0 : decode cX4_makeMessage 0 = .ok (.aload_n 0, 1) := by decide +kernel
theorem dX4_makeMessage_1 : decode cX4_makeMessage 1 = .ok (.getfield 12, 3) := by decide +kernel
theorem dX4_makeMessage_4 : decode cX4_makeMessage 4 = .ok (.getfield 150, 3) := by decide +kernel
theorem dX4_makeMessage_7 : decode cX4_makeMessage 7 = .ok (.tableswitch 82 0 6 #[41, 82, 55, 82, 55, 55, 69], 41) := by decide +kernel
theorem dX4_makeMessage_48 : decode cX4_makeMessage 48 = .ok (.aload_n 0, 1) := by decide +kernel
theorem dX4_makeMessage_49 : decode cX4_makeMessage 49 = .ok (.getfield 41, 3) := by decide +kernel
theorem dX4_makeMessage_52 : decode cX4_makeMessage 52 = .ok (.aload_n 0, 1) := by decide +kernel
theorem dX4_makeMessage_53 : decode cX4_makeMessage 53 = .ok (.getfield 12, 3) := by decide +kernel
theorem dX4_makeMessage_56 : decode cX4_makeMessage 56 = .ok (.invokevirtual 153, 3) := by decide +kernel
theorem dX4_makeMessage_59 : decode cX4_makeMessage 59 = .ok (.goto 41, 3) := by decide +kernel
theorem dX4_makeMessage_62 : decode cX4_makeMessage 62 = .ok (.aload_n 0, 1) := by decide +kernel
theorem dX4_makeMessage_63 : decode cX4_makeMessage 63 = .ok (.getfield 41, 3) := by decide +kernel
theorem dX4_makeMessage_66 : decode cX4_makeMessage 66 = .ok (.aload_n 0, 1) := by decide +kernel
theorem dX4_makeMessage_67 : decode cX4_makeMessage 67 = .ok (.getfield 12, 3) := by decide +kernel
theorem dX4_makeMessage_70 : decode cX4_makeMessage 70 = .ok (.invokevirtual 157, 3) := by decide +kernel
theorem dX4_makeMessage_73 : decode cX4_makeMessage 73 = .ok (.goto 27, 3) := by decide +kernel
theorem dX4_makeMessage_76 : decode cX4_makeMessage 76 = .ok (.aload_n 0, 1) := by decide +kernel
theorem dX4_makeMessage_77 : decode cX4_makeMessage 77 = .ok (.getfield 12, 3) := by decide +kernel
theorem dX4_makeMessage_80 : decode cX4_makeMessage 80 = .ok (.bipush 7, 2) := by decide +kernel
theorem dX4_makeMessage_82 : decode cX4_makeMessage 82 = .ok (.iconst 1, 1) := by decide +kernel
theorem dX4_makeMessage_83 : decode cX4_makeMessage 83 = .ok (.invokevirtual 61, 3) := by decide +kernel
theorem dX4_makeMessage_86 : decode cX4_makeMessage 86 = .ok (.goto 14, 3) := by decide +kernel
theorem dX4_makeMessage_89 : decode cX4_makeMessage 89 = .ok (.aload_n 0, 1) := by decide +kernel
theorem dX4_makeMessage_90 : decode cX4_makeMessage 90 = .ok (.getfield 48, 3) := by decide +kernel
theorem dX4_makeMessage_93 : decode cX4_makeMessage 93 = .ok (.aload_n 0, 1) := by decide +kernel
theorem dX4_makeMessage_94 : decode cX4_makeMessage 94 = .ok (.getfield 12, 3) := by decide +kernel
theorem dX4_makeMessage_97 : decode cX4_makeMessage 97 = .ok (.invokevirtual 160, 3) := by decide +kernel
theorem dX4_makeMessage_100 : decode cX4_makeMessage 100 = .ok (.return_, 1) := by decide +kernel
theorem dX4_emit_0 : decode cX4_emit 0 = .ok (.aload_n 0, 1) := by decide +kernel
theorem dX4_emit_1 : decode cX4_emit 1 = .ok (.dup, 1) := by decide +kernel
theorem dX4_emit_2 : decode cX4_emit 2 = .ok (.getfield 75, 3) := by decide +kernel
theorem dX4_emit_5 : decode cX4_emit 5 = .ok (.iconst 1, 1) := by decide +kernel
theorem dX4_emit_6 : decode cX4_emit 6 = .ok (.iadd, 1) := by decide +kernel
theorem dX4_emit_7 : decode cX4_emit 7 = .ok (.putfield 75, 3) := by decide +kernel
theorem dX4_emit_10 : decode cX4_emit 10 = .ok (.aload_n 0, 1) := by decide +kernel
theorem dX4_emit_11 : decode cX4_emit 11 = .ok (.aload_n 0, 1) := by decide +kernel
theorem dX4_emit_12 : decode cX4_emit 12 = .ok (.getfield 12, 3) := by decide +kernel
theorem dX4_emit_15 : decode cX4_emit 15 = .ok (.getfield 150, 3) := by decide +kernel
theorem dX4_emit_18 : decode cX4_emit 18 = .ok (.putfield 22, 3) := by decide +kernel
theorem dX4_emit_21 : decode cX4_emit 21 = .ok (.aload_n 0, 1) := by decide +kernel
theorem dX4_emit_22 : decode cX4_emit 22 = .ok (.getfield 12, 3) := by decide +kernel
theorem dX4_emit_25 : decode cX4_emit 25 = .ok (.getfield 150, 3) := by decide +kernel
theorem dX4_emit_28 : decode cX4_emit 28 = .ok (.iconst 2, 1) := by decide +kernel
theorem dX4_emit_29 : decode cX4_emit 29 = .ok (.if_icmp .ne 17, 3) := by decide +kernel
theorem dX4_emit_32 : decode cX4_emit 32 = .ok (.aload_n 0, 1) := by decide +kernel
theorem dX4_emit_33 : decode cX4_emit 33 = .ok (.aload_n 0, 1) := by decide +kernel
theorem dX4_emit_34 : decode cX4_emit 34 = .ok (.getfield 12, 3) := by decide +kernel
theorem dX4_emit_37 : decode cX4_emit 37 = .ok (.getfield 161, 3) := by decide +kernel
theorem dX4_emit_40 : decode cX4_emit 40 = .ok (.invokevirtual 162, 3) := by decide +kernel
theorem dX4_emit_43 : decode cX4_emit 43 = .ok (.putfield 81, 3) := by decide +kernel
theorem dX4_emit_46 : decode cX4_emit 46 = .ok (.aload_n 0, 1) := by decide +kernel
theorem dX4_emit_47 : decode cX4_emit 47 = .ok (.aload_n 0, 1) := by decide +kernel
theorem dX4_emit_48 : decode cX4_emit 48 = .ok (.getfield 32, 3) := by decide +kernel
theorem dX4_emit_51 : decode cX4_emit 51 = .ok (.aload_n 0, 1) := by decide +kernel
theorem dX4_emit_52 : decode cX4_emit 52 = .ok (.getfield 12, 3) := by decide +kernel
theorem dX4_emit_55 : decode cX4_emit 55 = .ok (.invokevirtual 165, 3) := by decide +kernel
theorem dX4_emit_58 : decode cX4_emit 58 = .ok (.ifCond .eq 12, 3) := by decide +kernel
theorem dX4_emit_61 : decode cX4_emit 61 = .ok (.iconst 1, 1) := by decide +kernel
theorem dX4_emit_62 : decode cX4_emit 62 = .ok (.aload_n 0, 1) := by decide +kernel
theorem dX4_emit_63 : decode cX4_emit 63 = .ok (.getfield 52, 3) := by decide +kernel
theorem dX4_emit_66 : decode cX4_emit 66 = .ok (.isub, 1) := by decide +kernel
theorem dX4_emit_67 : decode cX4_emit 67 = .ok (.goto 7, 3) := by decide +kernel
theorem dX4_emit_70 : decode cX4_emit 70 = .ok (.aload_n 0, 1) := by decide +kernel
theorem dX4_emit_71 : decode cX4_emit 71 = .ok (.getfield 52, 3) := by decide +kernel
theorem dX4_emit_74 : decode cX4_emit 74 = .ok (.aload_n 0, 1) := by decide +kernel
theorem dX4_emit_75 : decode cX4_emit 75 = .ok (.getfield 12, 3) := by decide +kernel
theorem dX4_emit_78 : decode cX4_emit 78 = .ok (.getfield 169, 3) := by decide +kernel
theorem dX4_emit_81 : decode cX4_emit 81 = .ok (.invokevirtual 172, 3) := by decide +kernel
theorem dX4_emit_84 : decode cX4_emit 84 = .ok (.ifCond .ne 7, 3) := by decide +kernel
theorem dX4_emit_87 : decode cX4_emit 87 = .ok (.iconst 1, 1) := by decide +kernel
theorem dX4_emit_88 : decode cX4_emit 88 = .ok (.goto 4, 3) := by decide +kernel
theorem dX4_emit_91 : decode cX4_emit 91 = .ok (.iconst 0, 1) := by decide +kernel
theorem dX4_emit_92 : decode cX4_emit 92 = .ok (.putfield 65, 3) := by decide +kernel
theorem dX4_emit_95 : decode cX4_emit 95 = .ok (.return_, 1) := by decide +kernel
theorem dX4_takeMessage_0 : decode cX4_takeMessage 0 = .ok (.aload_n 0, 1) := by decide +kernel
theorem dX4_takeMessage_1 : decode cX4_takeMessage 1 = .ok (.getfield 12, 3) := by decide +kernel
theorem dX4_takeMessage_4 : decode cX4_takeMessage 4 = .ok (.getfield 150, 3) := by decide +kernel
theorem dX4_takeMessage_7 : decode cX4_takeMessage 7 = .ok (.tableswitch 146 1 6 #[37, 61, 85, 95, 112, 129], 37) := by decide +kernel
theorem dX4_takeMessage_44 : decode cX4_takeMessage 44 = .ok (.aload_n 0, 1) := by decide +kernel
theorem dX4_takeMessage_45 : decode cX4_takeMessage 45 = .ok (.getfield 48, 3) := by decide +kernel
theorem dX4_takeMessage_48 : decode cX4_takeMessage 48 = .ok (.aload_n 0, 1) := by decide +kernel
theorem dX4_takeMessage_49 : decode cX4_takeMessage 49 = .ok (.getfield 12, 3) := by decide +kernel
theorem dX4_takeMessage_52 : decode cX4_takeMessage 52 = .ok (.getfield 178, 3) := by decide +kernel
theorem dX4_takeMessage_55 : decode cX4_takeMessage 55 = .ok (.aload_n 0, 1) := by decide +kernel
theorem dX4_takeMessage_56 : decode cX4_takeMessage 56 = .ok (.getfield 12, 3) := by decide +kernel
theorem dX4_takeMessage_59 : decode cX4_takeMessage 59 = .ok (.getfield 181, 3) := by decide +kernel
theorem dX4_takeMessage_62 : decode cX4_takeMessage 62 = .ok (.invokevirtual 185, 3) := by decide +kernel
theorem dX4_takeMessage_65 : decode cX4_takeMessage 65 = .ok (.goto 88, 3) := by decide +kernel
theorem dX4_takeMessage_68 : decode cX4_takeMessage 68 = .ok (.aload_n 0, 1) := by decide +kernel
theorem dX4_takeMessage_69 : decode cX4_takeMessage 69 = .ok (.getfield 41, 3) := by decide +kernel
theorem dX4_takeMessage_72 : decode cX4_takeMessage 72 = .ok (.aload_n 0, 1) := by decide +kernel
theorem dX4_takeMessage_73 : decode cX4_takeMessage 73 = .ok (.getfield 12, 3) := by decide +kernel
theorem dX4_takeMessage_76 : decode cX4_takeMessage 76 = .ok (.getfield 178, 3) := by decide +kernel
theorem dX4_takeMessage_79 : decode cX4_takeMessage 79 = .ok (.aload_n 0, 1) := by decide +kernel
theorem dX4_takeMessage_80 : decode cX4_takeMessage 80 = .ok (.getfield 12, 3) := by decide +kernel
theorem dX4_takeMessage_83 : decode cX4_takeMessage 83 = .ok (.getfield 161, 3) := by decide +kernel
theorem dX4_takeMessage_86 : decode cX4_takeMessage 86 = .ok (.invokevirtual 189, 3) := by decide +kernel
theorem dX4_takeMessage_89 : decode cX4_takeMessage 89 = .ok (.goto 64, 3) := by decide +kernel
theorem dX4_takeMessage_92 : decode cX4_takeMessage 92 = .ok (.aload_n 0, 1) := by decide +kernel
theorem dX4_takeMessage_93 : decode cX4_takeMessage 93 = .ok (.getfield 48, 3) := by decide +kernel
theorem dX4_takeMessage_96 : decode cX4_takeMessage 96 = .ok (.invokevirtual 193, 3) := by decide +kernel
theorem dX4_takeMessage_99 : decode cX4_takeMessage 99 = .ok (.goto 54, 3) := by decide +kernel
theorem dX4_takeMessage_102 : decode cX4_takeMessage 102 = .ok (.aload_n 0, 1) := by decide +kernel
theorem dX4_takeMessage_103 : decode cX4_takeMessage 103 = .ok (.getfield 48, 3) := by decide +kernel
theorem dX4_takeMessage_106 : decode cX4_takeMessage 106 = .ok (.aload_n 0, 1) := by decide +kernel
theorem dX4_takeMessage_107 : decode cX4_takeMessage 107 = .ok (.getfield 12, 3) := by decide +kernel
theorem dX4_takeMessage_110 : decode cX4_takeMessage 110 = .ok (.getfield 196, 3) := by decide +kernel
theorem dX4_takeMessage_113 : decode cX4_takeMessage 113 = .ok (.invokevirtual 199, 3) := by decide +kernel
theorem dX4_takeMessage_116 : decode cX4_takeMessage 116 = .ok (.goto 37, 3) := by decide +kernel
theorem dX4_takeMessage_119 : decode cX4_takeMessage 119 = .ok (.aload_n 0, 1) := by decide +kernel
theorem dX4_takeMessage_120 : decode cX4_takeMessage 120 = .ok (.getfield 48, 3) := by decide +kernel
theorem dX4_takeMessage_123 : decode cX4_takeMessage 123 = .ok (.aload_n 0, 1) := by decide +kernel
theorem dX4_takeMessage_124 : decode cX4_takeMessage 124 = .ok (.getfield 12, 3) := by decide +kernel
theorem dX4_takeMessage_127 : decode cX4_takeMessage 127 = .ok (.getfield 178, 3) := by decide +kernel
theorem dX4_takeMessage_130 : decode cX4_takeMessage 130 = .ok (.invokevirtual 203, 3) := by decide +kernel
theorem dX4_takeMessage_133 : decode cX4_takeMessage 133 = .ok (.goto 20, 3) := by decide +kernel
theorem dX4_takeMessage_136 : decode cX4_takeMessage 136 = .ok (.aload_n 0, 1) := by decide +kernel
theorem dX4_takeMessage_137 : decode cX4_takeMessage 137 = .ok (.getfield 48, 3) := by decide +kernel
theorem dX4_takeMessage_140 : decode cX4_takeMessage 140 = .ok (.aload_n 0, 1) := by decide +kernel
theorem dX4_takeMessage_141 : decode cX4_takeMessage 141 = .ok (.getfield 12, 3) := by decide +kernel
theorem dX4_takeMessage_144 : decode cX4_takeMessage 144 = .ok (.getfield 181, 3) := by decide +kernel
theorem dX4_takeMessage_147 : decode cX4_takeMessage 147 = .ok (.invokevirtual 207, 3) := by decide +kernel
theorem dX4_takeMessage_150 : decode cX4_takeMessage 150 = .ok (.goto 3, 3) := by decide +kernel
theorem dX4_takeMessage_153 : decode cX4_takeMessage 153 = .ok (.return_, 1) := by decide +kernel
theorem dX4_finishIfNothingFollows_0 : decode cX4_finishIfNothingFollows 0 = .ok (.aload_n 0, 1) := by decide +kernel
theorem dX4_finishIfNothingFollows_1 : decode cX4_finishIfNothingFollows 1 = .ok (.getfield 12, 3) := by decide +kernel
theorem dX4_finishIfNothingFollows_4 : decode cX4_finishIfNothingFollows 4 = .ok (.getfield 150, 3) := by decide +kernel
theorem dX4_finishIfNothingFollows_7 : decode cX4_finishIfNothingFollows 7 = .ok (.iconst 1, 1) := by decide +kernel
theorem dX4_finishIfNothingFollows_8 : decode cX4_finishIfNothingFollows 8 = .ok (.if_icmp .eq 26, 3) := by decide +kernel
theorem dX4_finishIfNothingFollows_11 : decode cX4_finishIfNothingFollows 11 = .ok (.aload_n 0, 1) := by decide +kernel
theorem dX4_finishIfNothingFollows_12 : decode cX4_finishIfNothingFollows 12 = .ok (.getfield 12, 3) := by decide +kernel
theorem dX4_finishIfNothingFollows_15 : decode cX4_finishIfNothingFollows 15 = .ok (.getfield 150, 3) := by decide +kernel
theorem dX4_finishIfNothingFollows_18 : decode cX4_finishIfNothingFollows 18 = .ok (.iconst 3, 1) := by decide +kernel
theorem dX4_finishIfNothingFollows_19 : decode cX4_finishIfNothingFollows 19 = .ok (.if_icmp .eq 15, 3) := by decide +kernel
theorem dX4_finishIfNothingFollows_22 : decode cX4_finishIfNothingFollows 22 = .ok (.aload_n 0, 1) := by decide +kernel
theorem dX4_finishIfNothingFollows_23 : decode cX4_finishIfNothingFollows 23 = .ok (.getfield 12, 3) := by decide +kernel
theorem dX4_finishIfNothingFollows_26 : decode cX4_finishIfNothingFollows 26 = .ok (.getfield 150, 3) := by decide +kernel
theorem dX4_finishIfNothingFollows_29 : decode cX4_finishIfNothingFollows 29 = .ok (.bipush 7, 2) := by decide +kernel
theorem dX4_finishIfNothingFollows_31 : decode cX4_finishIfNothingFollows 31 = .ok (.if_icmp .ne 7, 3) := by decide +kernel
theorem dX4_finishIfNothingFollows_34 : decode cX4_finishIfNothingFollows 34 = .ok (.iconst 1, 1) := by decide +kernel
theorem dX4_finishIfNothingFollows_35 : decode cX4_finishIfNothingFollows 35 = .ok (.goto 4, 3) := by decide +kernel
theorem dX4_finishIfNothingFollows_38 : decode cX4_finishIfNothingFollows 38 = .ok (.iconst 0, 1) := by decide +kernel
theorem dX4_finishIfNothingFollows_39 : decode cX4_finishIfNothingFollows 39 = .ok (.istore_n 1, 1) := by decide +kernel
theorem dX4_finishIfNothingFollows_40 : decode cX4_finishIfNothingFollows 40 = .ok (.iload_n 1, 1) := by decide +kernel
theorem dX4_finishIfNothingFollows_41 : decode cX4_finishIfNothingFollows 41 = .ok (.ifCond .eq 32, 3) := by decide +kernel
theorem dX4_finishIfNothingFollows_44 : decode cX4_finishIfNothingFollows 44 = .ok (.aload_n 0, 1) := by decide +kernel
theorem dX4_finishIfNothingFollows_45 : decode cX4_finishIfNothingFollows 45 = .ok (.getfield 48, 3) := by decide +kernel
theorem dX4_finishIfNothingFollows_48 : decode cX4_finishIfNothingFollows 48 = .ok (.invokevirtual 211, 3) := by decide +kernel
theorem dX4_finishIfNothingFollows_51 : decode cX4_finishIfNothingFollows 51 = .ok (.ifCond .ne 22, 3) := by decide +kernel
theorem dX4_finishIfNothingFollows_54 : decode cX4_finishIfNothingFollows 54 = .ok (.aload_n 0, 1) := by decide +kernel
theorem dX4_finishIfNothingFollows_55 : decode cX4_finishIfNothingFollows 55 = .ok (.iconst 2, 1) := by decide +kernel
theorem dX4_finishIfNothingFollows_56 : decode cX4_finishIfNothingFollows 56 = .ok (.putfield 18, 3) := by decide +kernel
theorem dX4_finishIfNothingFollows_59 : decode cX4_finishIfNothingFollows 59 = .ok (.aload_n 0, 1) := by decide +kernel
theorem dX4_finishIfNothingFollows_60 : decode cX4_finishIfNothingFollows 60 = .ok (.getfield 48, 3) := by decide +kernel
theorem dX4_finishIfNothingFollows_63 : decode cX4_finishIfNothingFollows 63 = .ok (.invokevirtual 214, 3) := by decide +kernel
theorem dX4_finishIfNothingFollows_66 : decode cX4_finishIfNothingFollows 66 = .ok (.aload_n 0, 1) := by decide +kernel
theorem dX4_finishIfNothingFollows_67 : decode cX4_finishIfNothingFollows 67 = .ok (.getfield 48, 3) := by decide +kernel
theorem dX4_finishIfNothingFollows_70 : decode cX4_finishIfNothingFollows 70 = .ok (.invokevirtual 84, 3) := by decide +kernel
theorem dX4_finishIfNothingFollows_73 : decode cX4_finishIfNothingFollows 73 = .ok (.return_, 1) := by decide +kernel
theorem dX5_init_0 : decode cX5_init 0 = .ok (.aload_n 0, 1) := by decide +kernel
theorem dX5_init_1 : decode cX5_init 1 = .ok (.invokespecial 3, 3) := by decide +kernel
theorem dX5_init_4 : decode cX5_init 4 = .ok (.aload_n 0, 1) := by decide +kernel
theorem dX5_init_5 : decode cX5_init 5 = .ok (.new 9, 3) := by decide +kernel
theorem dX5_init_8 : decode cX5_init 8 = .ok (.dup, 1) := by decide +kernel
theorem dX5_init_9 : decode cX5_init 9 = .ok (.invokespecial 11, 3) := by decide +kernel
theorem dX5_init_12 : decode cX5_init 12 = .ok (.putfield 12, 3) := by decide +kernel
theorem dX5_init_15 : decode cX5_init 15 = .ok (.aload_n 0, 1) := by decide +kernel
theorem dX5_init_16 : decode cX5_init 16 = .ok (.aload_n 1, 1) := by decide +kernel
theorem dX5_init_17 : decode cX5_init 17 = .ok (.putfield 18, 3) := by decide +kernel
theorem dX5_init_20 : decode cX5_init 20 = .ok (.return_, 1) := by decide +kernel
theorem dX5_start_0 : decode cX5_start 0 = .ok (.aload_n 0, 1) := by decide +kernel
theorem dX5_start_1 : decode cX5_start 1 = .ok (.aload_n 1, 1) := by decide +kernel
theorem dX5_start_2 : decode cX5_start 2 = .ok (.putfield 18, 3) := by decide +kernel
theorem dX5_start_5 : decode cX5_start 5 = .ok (.aload_n 0, 1) := by decide +kernel
theorem dX5_start_6 : decode cX5_start 6 = .ok (.iconst 0, 1) := by decide +kernel
theorem dX5_start_7 : decode cX5_start 7 = .ok (.putfield 22, 3) := by decide +kernel
theorem dX5_start_10 : decode cX5_start 10 = .ok (.aload_n 0, 1) := by decide +kernel
theorem dX5_start_11 : decode cX5_start 11 = .ok (.iconst 0, 1) := by decide +kernel
theorem dX5_start_12 : decode cX5_start 12 = .ok (.putfield 26, 3) := by decide +kernel
theorem dX5_start_15 : decode cX5_start 15 = .ok (.return_, 1) := by decide +kernel
theorem dX5_takeSums_0 : decode cX5_takeSums 0 = .ok (.aload_n 0, 1) := by decide +kernel
theorem dX5_takeSums_1 : decode cX5_takeSums 1 = .ok (.getfield 12, 3) := by decide +kernel
theorem dX5_takeSums_4 : decode cX5_takeSums 4 = .ok (.aload_n 2, 1) := by decide +kernel
theorem dX5_takeSums_5 : decode cX5_takeSums 5 = .ok (.invokevirtual 29, 3) := by decide +kernel
theorem dX5_takeSums_8 : decode cX5_takeSums 8 = .ok (.aload_n 0, 1) := by decide +kernel
theorem dX5_takeSums_9 : decode cX5_takeSums 9 = .ok (.iload_n 1, 1) := by decide +kernel
theorem dX5_takeSums_10 : decode cX5_takeSums 10 = .ok (.putfield 33, 3) := by decide +kernel
theorem dX5_takeSums_13 : decode cX5_takeSums 13 = .ok (.aload_n 0, 1) := by decide +kernel
theorem dX5_takeSums_14 : decode cX5_takeSums 14 = .ok (.iconst 0, 1) := by decide +kernel
theorem dX5_takeSums_15 : decode cX5_takeSums 15 = .ok (.putfield 36, 3) := by decide +kernel
theorem dX5_takeSums_18 : decode cX5_takeSums 18 = .ok (.return_, 1) := by decide +kernel
theorem dX5_makeNode_0 : decode cX5_makeNode 0 = .ok (.aload_n 1, 1) := by decide +kernel
theorem dX5_makeNode_1 : decode cX5_makeNode 1 = .ok (.iconst 1, 1) := by decide +kernel
theorem dX5_makeNode_2 : decode cX5_makeNode 2 = .ok (.bipush 10, 2) := by decide +kernel
theorem dX5_makeNode_4 : decode cX5_makeNode 4 = .ok (.invokevirtual 39, 3) := by decide +kernel
theorem dX5_makeNode_7 : decode cX5_makeNode 7 = .ok (.aload_n 1, 1) := by decide +kernel
theorem dX5_makeNode_8 : decode cX5_makeNode 8 = .ok (.aload_n 0, 1) := by decide +kernel
theorem dX5_makeNode_9 : decode cX5_makeNode 9 = .ok (.getfield 18, 3) := by decide +kernel
theorem dX5_makeNode_12 : decode cX5_makeNode 12 = .ok (.aload_n 1, 1) := by decide +kernel
theorem dX5_makeNode_13 : decode cX5_makeNode 13 = .ok (.getfield 45, 3) := by decide +kernel
theorem dX5_makeNode_16 : decode cX5_makeNode 16 = .ok (.invokevirtual 48, 3) := by decide +kernel
theorem dX5_makeNode_19 : decode cX5_makeNode 19 = .ok (.putfield 54, 3) := by decide +kernel
theorem dX5_makeNode_22 : decode cX5_makeNode 22 = .ok (.return_, 1) := by decide +kernel
theorem dX5_makeNext_0 : decode cX5_makeNext 0 = .ok (.aload_n 0, 1) := by decide +kernel
theorem dX5_makeNext_1 : decode cX5_makeNext 1 = .ok (.getfield 18, 3) := by decide +kernel
theorem dX5_makeNext_4 : decode cX5_makeNext 4 = .ok (.aload_n 0, 1) := by decide +kernel
theorem dX5_makeNext_5 : decode cX5_makeNext 5 = .ok (.getfield 33, 3) := by decide +kernel
theorem dX5_makeNext_8 : decode cX5_makeNext 8 = .ok (.invokevirtual 58, 3) := by decide +kernel
theorem dX5_makeNext_11 : decode cX5_makeNext 11 = .ok (.astore_n 2, 1) := by decide +kernel
theorem dX5_makeNext_12 : decode cX5_makeNext 12 = .ok (.aload_n 2, 1) := by decide +kernel
theorem dX5_makeNext_13 : decode cX5_makeNext 13 = .ok (.ifnonnull 20, 3) := by decide +kernel
theorem dX5_makeNext_16 : decode cX5_makeNext 16 = .ok (.aload_n 1, 1) := by decide +kernel
theorem dX5_makeNext_17 : decode cX5_makeNext 17 = .ok (.getfield 62, 3) := by decide +kernel
theorem dX5_makeNext_20 : decode cX5_makeNext 20 = .ok (.iconst 2, 1) := by decide +kernel
theorem dX5_makeNext_21 : decode cX5_makeNext 21 = .ok (.if_icmp .ne 12, 3) := by decide +kernel
theorem dX5_makeNext_24 : decode cX5_makeNext 24 = .ok (.aload_n 1, 1) := by decide +kernel
theorem dX5_makeNext_25 : decode cX5_makeNext 25 = .ok (.iconst 3, 1) := by decide +kernel
theorem dX5_makeNext_26 : decode cX5_makeNext 26 = .ok (.iconst 1, 1) := by decide +kernel
theorem dX5_makeNext_27 : decode cX5_makeNext 27 = .ok (.invokevirtual 39, 3) := by decide +kernel
theorem dX5_makeNext_30 : decode cX5_makeNext 30 = .ok (.goto 57, 3) := by decide +kernel
theorem dX5_makeNext_33 : decode cX5_makeNext 33 = .ok (.aload_n 2, 1) := by decide +kernel
theorem dX5_makeNext_34 : decode cX5_makeNext 34 = .ok (.ifnull 14, 3) := by decide +kernel
theorem dX5_makeNext_37 : decode cX5_makeNext 37 = .ok (.aload_n 0, 1) := by decide +kernel
theorem dX5_makeNext_38 : decode cX5_makeNext 38 = .ok (.getfield 36, 3) := by decide +kernel
theorem dX5_makeNext_41 : decode cX5_makeNext 41 = .ok (.aload_n 2, 1) := by decide +kernel
theorem dX5_makeNext_42 : decode cX5_makeNext 42 = .ok (.invokevirtual 65, 3) := by decide +kernel
theorem dX5_makeNext_45 : decode cX5_makeNext 45 = .ok (.if_icmp .lt 36, 3) := by decide +kernel
theorem dX5_makeNext_48 : decode cX5_makeNext 48 = .ok (.aload_n 1, 1) := by decide +kernel
theorem dX5_makeNext_49 : decode cX5_makeNext 49 = .ok (.bipush 6, 2) := by decide +kernel
theorem dX5_makeNext_51 : decode cX5_makeNext 51 = .ok (.bipush 11, 2) := by decide +kernel
theorem dX5_makeNext_53 : decode cX5_makeNext 53 = .ok (.invokevirtual 39, 3) := by decide +kernel
theorem dX5_makeNext_56 : decode cX5_makeNext 56 = .ok (.aload_n 1, 1) := by decide +kernel
theorem dX5_makeNext_57 : decode cX5_makeNext 57 = .ok (.aload_n 2, 1) := by decide +kernel
theorem dX5_makeNext_58 : decode cX5_makeNext 58 = .ok (.ifnonnull 9, 3) := by decide +kernel
theorem dX5_makeNext_61 : decode cX5_makeNext 61 = .ok (.ldc2_w 71, 3) := by decide +kernel
theorem dX5_makeNext_64 : decode cX5_makeNext 64 = .ok (.goto 11, 3) := by decide +kernel
theorem dX5_makeNext_67 : decode cX5_makeNext 67 = .ok (.aload_n 2, 1) := by decide +kernel
theorem dX5_makeNext_68 : decode cX5_makeNext 68 = .ok (.iconst 0, 1) := by decide +kernel
theorem dX5_makeNext_69 : decode cX5_makeNext 69 = .ok (.sipush 500, 3) := by decide +kernel
theorem dX5_makeNext_72 : decode cX5_makeNext 72 = .ok (.invokevirtual 73, 3) := by decide +kernel
theorem dX5_makeNext_75 : decode cX5_makeNext 75 = .ok (.putfield 54, 3) := by decide +kernel
theorem dX5_makeNext_78 : decode cX5_makeNext 78 = .ok (.goto 9, 3) := by decide +kernel
theorem dX5_makeNext_81 : decode cX5_makeNext 81 = .ok (.aload_n 0, 1) := by decide +kernel
theorem dX5_makeNext_82 : decode cX5_makeNext 82 = .ok (.aload_n 1, 1) := by decide +kernel
theorem dX5_makeNext_83 : decode cX5_makeNext 83 = .ok (.aload_n 2, 1) := by decide +kernel
theorem dX5_makeNext_84 : decode cX5_makeNext 84 = .ok (.invokevirtual 77, 3) := by decide +kernel
theorem dX5_makeNext_87 : decode cX5_makeNext 87 = .ok (.return_, 1) := by decide +kernel
theorem dX5_makePart_0 : decode cX5_makePart 0 = .ok (.aload_n 0, 1) := by decide +kernel
theorem dX5_makePart_1 : decode cX5_makePart 1 = .ok (.aload_n 2, 1) := by decide +kernel
theorem dX5_makePart_2 : decode cX5_makePart 2 = .ok (.invokevirtual 81, 3) := by decide +kernel
theorem dX5_makePart_5 : decode cX5_makePart 5 = .ok (.istore_n 3, 1) := by decide +kernel
theorem dX5_makePart_6 : decode cX5_makePart 6 = .ok (.iload_n 3, 1) := by decide +kernel
theorem dX5_makePart_7 : decode cX5_makePart 7 = .ok (.bipush (-2), 2) := by decide +kernel
theorem dX5_makePart_9 : decode cX5_makePart 9 = .ok (.if_icmp .eq 31, 3) := by decide +kernel
theorem dX5_makePart_12 : decode cX5_makePart 12 = .ok (.aload_n 1, 1) := by decide +kernel
theorem dX5_makePart_13 : decode cX5_makePart 13 = .ok (.iconst 5, 1) := by decide +kernel
theorem dX5_makePart_14 : decode cX5_makePart 14 = .ok (.iconst 4, 1) := by decide +kernel
theorem dX5_makePart_15 : decode cX5_makePart 15 = .ok (.invokevirtual 39, 3) := by decide +kernel
theorem dX5_makePart_18 : decode cX5_makePart 18 = .ok (.aload_n 1, 1) := by decide +kernel
theorem dX5_makePart_19 : decode cX5_makePart 19 = .ok (.iload_n 3, 1) := by decide +kernel
theorem dX5_makePart_20 : decode cX5_makePart 20 = .ok (.putfield 45, 3) := by decide +kernel
theorem dX5_makePart_23 : decode cX5_makePart 23 = .ok (.aload_n 0, 1) := by decide +kernel
theorem dX5_makePart_24 : decode cX5_makePart 24 = .ok (.dup, 1) := by decide +kernel
theorem dX5_makePart_25 : decode cX5_makePart 25 = .ok (.getfield 36, 3) := by decide +kernel
theorem dX5_makePart_28 : decode cX5_makePart 28 = .ok (.aload_n 0, 1) := by decide +kernel
theorem dX5_makePart_29 : decode cX5_makePart 29 = .ok (.getfield 12, 3) := by decide +kernel
theorem dX5_makePart_32 : decode cX5_makePart 32 = .ok (.invokevirtual 85, 3) := by decide +kernel
theorem dX5_makePart_35 : decode cX5_makePart 35 = .ok (.iadd, 1) := by decide +kernel
theorem dX5_makePart_36 : decode cX5_makePart 36 = .ok (.putfield 36, 3) := by decide +kernel
theorem dX5_makePart_39 : decode cX5_makePart 39 = .ok (.return_, 1) := by decide +kernel
theorem dX5_makePart_40 : decode cX5_makePart 40 = .ok (.aload_n 1, 1) := by decide +kernel
theorem dX5_makePart_41 : decode cX5_makePart 41 = .ok (.getfield 88, 3) := by decide +kernel
theorem dX5_makePart_44 : decode cX5_makePart 44 = .ok (.astore 4, 2) := by decide +kernel
theorem dX5_makePart_46 : decode cX5_makePart 46 = .ok (.aload 4, 2) := by decide +kernel
theorem dX5_makePart_48 : decode cX5_makePart 48 = .ok (.iconst 0, 1) := by decide +kernel
theorem dX5_makePart_49 : decode cX5_makePart 49 = .ok (.invokevirtual 92, 3) := by decide +kernel
theorem dX5_makePart_52 : decode cX5_makePart 52 = .ok (.iconst 1, 1) := by decide +kernel
theorem dX5_makePart_53 : decode cX5_makePart 53 = .ok (.istore 5, 2) := by decide +kernel
theorem dX5_makePart_55 : decode cX5_makePart 55 = .ok (.iload 5, 2) := by decide +kernel
theorem dX5_makePart_57 : decode cX5_makePart 57 = .ok (.bipush 16, 2) := by decide +kernel
theorem dX5_makePart_59 : decode cX5_makePart 59 = .ok (.if_icmp .gt 62, 3) := by decide +kernel
theorem dX5_makePart_62 : decode cX5_makePart 62 = .ok (.iload_n 3, 1) := by decide +kernel
theorem dX5_makePart_63 : decode cX5_makePart 63 = .ok (.bipush (-2), 2) := by decide +kernel
theorem dX5_makePart_65 : decode cX5_makePart 65 = .ok (.if_icmp .ne 56, 3) := by decide +kernel
theorem dX5_makePart_68 : decode cX5_makePart 68 = .ok (.aload_n 0, 1) := by decide +kernel
theorem dX5_makePart_69 : decode cX5_makePart 69 = .ok (.getfield 36, 3) := by decide +kernel
theorem dX5_makePart_72 : decode cX5_makePart 72 = .ok (.aload_n 2, 1) := by decide +kernel
theorem dX5_makePart_73 : decode cX5_makePart 73 = .ok (.invokevirtual 65, 3) := by decide +kernel
theorem dX5_makePart_76 : decode cX5_makePart 76 = .ok (.if_icmp .ge 45, 3) := by decide +kernel
theorem dX5_makePart_79 : decode cX5_makePart 79 = .ok (.aload 4, 2) := by decide +kernel
theorem dX5_makePart_81 : decode cX5_makePart 81 = .ok (.aload_n 2, 1) := by decide +kernel
theorem dX5_makePart_82 : decode cX5_makePart 82 = .ok (.aload_n 0, 1) := by decide +kernel
theorem dX5_makePart_83 : decode cX5_makePart 83 = .ok (.getfield 36, 3) := by decide +kernel
theorem dX5_makePart_86 : decode cX5_makePart 86 = .ok (.invokevirtual 96, 3) := by decide +kernel
theorem dX5_makePart_89 : decode cX5_makePart 89 = .ok (.invokevirtual 100, 3) := by decide +kernel
theorem dX5_makePart_92 : decode cX5_makePart 92 = .ok (.aload_n 0, 1) := by decide +kernel
theorem dX5_makePart_93 : decode cX5_makePart 93 = .ok (.dup, 1) := by decide +kernel
theorem dX5_makePart_94 : decode cX5_makePart 94 = .ok (.getfield 36, 3) := by decide +kernel
theorem dX5_makePart_97 : decode cX5_makePart 97 = .ok (.iconst 1, 1) := by decide +kernel
theorem dX5_makePart_98 : decode cX5_makePart 98 = .ok (.iadd, 1) := by decide +kernel
theorem dX5_makePart_99 : decode cX5_makePart 99 = .ok (.putfield 36, 3) := by decide +kernel
theorem dX5_makePart_102 : decode cX5_makePart 102 = .ok (.iload 5, 2) := by decide +kernel
theorem dX5_makePart_104 : decode cX5_makePart 104 = .ok (.bipush 16, 2) := by decide +kernel
theorem dX5_makePart_106 : decode cX5_makePart 106 = .ok (.if_icmp .ge 9, 3) := by decide +kernel
theorem dX5_makePart_109 : decode cX5_makePart 109 = .ok (.aload_n 0, 1) := by decide +kernel
theorem dX5_makePart_110 : decode cX5_makePart 110 = .ok (.aload_n 2, 1) := by decide +kernel
theorem dX5_makePart_111 : decode cX5_makePart 111 = .ok (.invokevirtual 81, 3) := by decide +kernel
theorem dX5_makePart_114 : decode cX5_makePart 114 = .ok (.istore_n 3, 1) := by decide +kernel
theorem dX5_makePart_115 : decode cX5_makePart 115 = .ok (.iinc 5 1, 3) := by decide +kernel
theorem dX5_makePart_118 : decode cX5_makePart 118 = .ok (.goto (-63), 3) := by decide +kernel
theorem dX5_makePart_121 : decode cX5_makePart 121 = .ok (.aload_n 1, 1) := by decide +kernel
theorem dX5_makePart_122 : decode cX5_makePart 122 = .ok (.iconst 4, 1) := by decide +kernel
theorem dX5_makePart_123 : decode cX5_makePart 123 = .ok (.iconst 2, 1) := by decide +kernel
theorem dX5_makePart_124 : decode cX5_makePart 124 = .ok (.aload 4, 2) := by decide +kernel
theorem dX5_makePart_126 : decode cX5_makePart 126 = .ok (.invokevirtual 65, 3) := by decide +kernel
theorem dX5_makePart_129 : decode cX5_makePart 129 = .ok (.iadd, 1) := by decide +kernel
theorem dX5_makePart_130 : decode cX5_makePart 130 = .ok (.invokevirtual 39, 3) := by decide +kernel
theorem dX5_makePart_133 : decode cX5_makePart 133 = .ok (.return_, 1) := by decide +kernel
theorem dX5_look_0 : decode cX5_look 0 = .ok (.aload_n 0, 1) := by decide +kernel
theorem dX5_look_1 : decode cX5_look 1 = .ok (.getfield 12, 3) := by decide +kernel
theorem dX5_look_4 : decode cX5_look 4 = .ok (.invokevirtual 85, 3) := by decide +kernel
theorem dX5_look_7 : decode cX5_look 7 = .ok (.istore_n 2, 1) := by decide +kernel
theorem dX5_look_8 : decode cX5_look 8 = .ok (.aload_n 1, 1) := by decide +kernel
theorem dX5_look_9 : decode cX5_look 9 = .ok (.aload_n 0, 1) := by decide +kernel
theorem dX5_look_10 : decode cX5_look 10 = .ok (.getfield 36, 3) := by decide +kernel
theorem dX5_look_13 : decode cX5_look 13 = .ok (.iload_n 2, 1) := by decide +kernel
theorem dX5_look_14 : decode cX5_look 14 = .ok (.invokevirtual 103, 3) := by decide +kernel
theorem dX5_look_17 : decode cX5_look 17 = .ok (.ifCond .ne 6, 3) := by decide +kernel
theorem dX5_look_20 : decode cX5_look 20 = .ok (.bipush (-2), 2) := by decide +kernel
theorem dX5_look_22 : decode cX5_look 22 = .ok (.ireturn, 1) := by decide +kernel
theorem dX5_look_23 : decode cX5_look 23 = .ok (.aload_n 1, 1) := by decide +kernel
theorem dX5_look_24 : decode cX5_look 24 = .ok (.aload_n 0, 1) := by decide +kernel
theorem dX5_look_25 : decode cX5_look 25 = .ok (.getfield 36, 3) := by decide +kernel
theorem dX5_look_28 : decode cX5_look 28 = .ok (.iload_n 2, 1) := by decide +kernel
theorem dX5_look_29 : decode cX5_look 29 = .ok (.invokevirtual 107, 3) := by decide +kernel
theorem dX5_look_32 : decode cX5_look 32 = .ok (.lstore_n 3, 1) := by decide +kernel
theorem dX5_look_33 : decode cX5_look 33 = .ok (.aload_n 0, 1) := by decide +kernel
theorem dX5_look_34 : decode cX5_look 34 = .ok (.getfield 12, 3) := by decide +kernel
theorem dX5_look_37 : decode cX5_look 37 = .ok (.lload_n 3, 1) := by decide +kernel
theorem dX5_look_38 : decode cX5_look 38 = .ok (.invokevirtual 110, 3) := by decide +kernel
theorem dX5_look_41 : decode cX5_look 41 = .ok (.ifCond .ne 6, 3) := by decide +kernel
theorem dX5_look_44 : decode cX5_look 44 = .ok (.bipush (-2), 2) := by decide +kernel
theorem dX5_look_46 : decode cX5_look 46 = .ok (.ireturn, 1) := by decide +kernel
theorem dX5_look_47 : decode cX5_look 47 = .ok (.aload_n 0, 1) := by decide +kernel
theorem dX5_look_48 : decode cX5_look 48 = .ok (.dup, 1) := by decide +kernel
theorem dX5_look_49 : decode cX5_look 49 = .ok (.getfield 22, 3) := by decide +kernel
theorem dX5_look_52 : decode cX5_look 52 = .ok (.iconst 1, 1) := by decide +kernel
theorem dX5_look_53 : decode cX5_look 53 = .ok (.iadd, 1) := by decide +kernel
theorem dX5_look_54 : decode cX5_look 54 = .ok (.putfield 22, 3) := by decide +kernel
theorem dX5_look_57 : decode cX5_look 57 = .ok (.aload_n 0, 1) := by decide +kernel
theorem dX5_look_58 : decode cX5_look 58 = .ok (.getfield 12, 3) := by decide +kernel
theorem dX5_look_61 : decode cX5_look 61 = .ok (.lload_n 3, 1) := by decide +kernel
theorem dX5_look_62 : decode cX5_look 62 = .ok (.aload_n 1, 1) := by decide +kernel
theorem dX5_look_63 : decode cX5_look 63 = .ok (.aload_n 0, 1) := by decide +kernel
theorem dX5_look_64 : decode cX5_look 64 = .ok (.getfield 36, 3) := by decide +kernel
theorem dX5_look_67 : decode cX5_look 67 = .ok (.iload_n 2, 1) := by decide +kernel
theorem dX5_look_68 : decode cX5_look 68 = .ok (.invokevirtual 73, 3) := by decide +kernel
theorem dX5_look_71 : decode cX5_look 71 = .ok (.aload_n 0, 1) := by decide +kernel
theorem dX5_look_72 : decode cX5_look 72 = .ok (.getfield 12, 3) := by decide +kernel
theorem dX5_look_75 : decode cX5_look 75 = .ok (.invokevirtual 114, 3) := by decide +kernel
theorem dX5_look_78 : decode cX5_look 78 = .ok (.invokestatic 117, 3) := by decide +kernel
theorem dX5_look_81 : decode cX5_look 81 = .ok (.invokevirtual 121, 3) := by decide +kernel
theorem dX5_look_84 : decode cX5_look 84 = .ok (.istore 5, 2) := by decide +kernel
theorem dX5_look_86 : decode cX5_look 86 = .ok (.iload 5, 2) := by decide +kernel
theorem dX5_look_88 : decode cX5_look 88 = .ok (.bipush (-2), 2) := by decide +kernel
theorem dX5_look_90 : decode cX5_look 90 = .ok (.if_icmp .ne 13, 3) := by decide +kernel
theorem dX5_look_93 : decode cX5_look 93 = .ok (.aload_n 0, 1) := by decide +kernel
theorem dX5_look_94 : decode cX5_look 94 = .ok (.dup, 1) := by decide +kernel
theorem dX5_look_95 : decode cX5_look 95 = .ok (.getfield 26, 3) := by decide +kernel
theorem dX5_look_98 : decode cX5_look 98 = .ok (.iconst 1, 1) := by decide +kernel
theorem dX5_look_99 : decode cX5_look 99 = .ok (.iadd, 1) := by decide +kernel
theorem dX5_look_100 : decode cX5_look 100 = .ok (.putfield 26, 3) := by decide +kernel
theorem dX5_look_103 : decode cX5_look 103 = .ok (.iload 5, 2) := by decide +kernel
theorem dX5_look_105 : decode cX5_look 105 = .ok (.ireturn, 1) := by decide +kernel
theorem dX6_init_0 : decode cX6_init 0 = .ok (.aload_n 0, 1) := by decide +kernel
theorem dX6_init_1 : decode cX6_init 1 = .ok (.invokespecial 3, 3) := by decide +kernel
theorem dX6_init_4 : decode cX6_init 4 = .ok (.aload_n 0, 1) := by decide +kernel
theorem dX6_init_5 : decode cX6_init 5 = .ok (.bipush 8, 2) := by decide +kernel
theorem dX6_init_7 : decode cX6_init 7 = .ok (.anewarray 9, 3) := by decide +kernel
theorem dX6_init_10 : decode cX6_init 10 = .ok (.putfield 11, 3) := by decide +kernel
theorem dX6_init_13 : decode cX6_init 13 = .ok (.aload_n 0, 1) := by decide +kernel
theorem dX6_init_14 : decode cX6_init 14 = .ok (.bipush 8, 2) := by decide +kernel
theorem dX6_init_16 : decode cX6_init 16 = .ok (.newarray .boolean, 2) := by decide +kernel
theorem dX6_init_18 : decode cX6_init 18 = .ok (.putfield 17, 3) := by decide +kernel
theorem dX6_init_21 : decode cX6_init 21 = .ok (.aload_n 0, 1) := by decide +kernel
theorem dX6_init_22 : decode cX6_init 22 = .ok (.bipush 16, 2) := by decide +kernel
theorem dX6_init_24 : decode cX6_init 24 = .ok (.newarray .long, 2) := by decide +kernel
theorem dX6_init_26 : decode cX6_init 26 = .ok (.putfield 21, 3) := by decide +kernel
theorem dX6_init_29 : decode cX6_init 29 = .ok (.iconst 0, 1) := by decide +kernel
theorem dX6_init_30 : decode cX6_init 30 = .ok (.istore_n 1, 1) := by decide +kernel
theorem dX6_init_31 : decode cX6_init 31 = .ok (.iload_n 1, 1) := by decide +kernel
theorem dX6_init_32 : decode cX6_init 32 = .ok (.bipush 8, 2) := by decide +kernel
theorem dX6_init_34 : decode cX6_init 34 = .ok (.if_icmp .ge 25, 3) := by decide +kernel
theorem dX6_init_37 : decode cX6_init 37 = .ok (.aload_n 0, 1) := by decide +kernel
theorem dX6_init_38 : decode cX6_init 38 = .ok (.getfield 11, 3) := by decide +kernel
theorem dX6_init_41 : decode cX6_init 41 = .ok (.iload_n 1, 1) := by decide +kernel
theorem dX6_init_42 : decode cX6_init 42 = .ok (.new 9, 3) := by decide +kernel
theorem dX6_init_45 : decode cX6_init 45 = .ok (.dup, 1) := by decide +kernel
theorem dX6_init_46 : decode cX6_init 46 = .ok (.sipush 500, 3) := by decide +kernel
theorem dX6_init_49 : decode cX6_init 49 = .ok (.invokespecial 25, 3) := by decide +kernel
theorem dX6_init_52 : decode cX6_init 52 = .ok (.aastore, 1) := by decide +kernel
theorem dX6_init_53 : decode cX6_init 53 = .ok (.iinc 1 1, 3) := by decide +kernel
theorem dX6_init_56 : decode cX6_init 56 = .ok (.goto (-25), 3) := by decide +kernel
theorem dX6_init_59 : decode cX6_init 59 = .ok (.iconst 0, 1) := by decide +kernel
theorem dX6_init_60 : decode cX6_init 60 = .ok (.istore_n 1, 1) := by decide +kernel
theorem dX6_init_61 : decode cX6_init 61 = .ok (.iload_n 1, 1) := by decide +kernel
theorem dX6_init_62 : decode cX6_init 62 = .ok (.bipush 8, 2) := by decide +kernel
theorem dX6_init_64 : decode cX6_init 64 = .ok (.if_icmp .ge 14, 3) := by decide +kernel
theorem dX6_init_67 : decode cX6_init 67 = .ok (.aload_n 0, 1) := by decide +kernel
theorem dX6_init_68 : decode cX6_init 68 = .ok (.iload_n 1, 1) := by decide +kernel
theorem dX6_init_69 : decode cX6_init 69 = .ok (.invokevirtual 28, 3) := by decide +kernel
theorem dX6_init_72 : decode cX6_init 72 = .ok (.iinc 1 1, 3) := by decide +kernel
theorem dX6_init_75 : decode cX6_init 75 = .ok (.goto (-14), 3) := by decide +kernel
theorem dX6_init_78 : decode cX6_init 78 = .ok (.return_, 1) := by decide +kernel
theorem dX6_existing_0 : decode cX6_existing 0 = .ok (.iload_n 1, 1) := by decide +kernel
theorem dX6_existing_1 : decode cX6_existing 1 = .ok (.invokestatic 31, 3) := by decide +kernel
theorem dX6_existing_4 : decode cX6_existing 4 = .ok (.ifCond .eq 21, 3) := by decide +kernel
theorem dX6_existing_7 : decode cX6_existing 7 = .ok (.aload_n 0, 1) := by decide +kernel
theorem dX6_existing_8 : decode cX6_existing 8 = .ok (.getfield 17, 3) := by decide +kernel
theorem dX6_existing_11 : decode cX6_existing 11 = .ok (.iload_n 1, 1) := by decide +kernel
theorem dX6_existing_12 : decode cX6_existing 12 = .ok (.baload, 1) := by decide +kernel
theorem dX6_existing_13 : decode cX6_existing 13 = .ok (.ifCond .eq 12, 3) := by decide +kernel
theorem dX6_existing_16 : decode cX6_existing 16 = .ok (.aload_n 0, 1) := by decide +kernel
theorem dX6_existing_17 : decode cX6_existing 17 = .ok (.getfield 11, 3) := by decide +kernel
theorem dX6_existing_20 : decode cX6_existing 20 = .ok (.iload_n 1, 1) := by decide +kernel
theorem dX6_existing_21 : decode cX6_existing 21 = .ok (.aaload, 1) := by decide +kernel
theorem dX6_existing_22 : decode cX6_existing 22 = .ok (.goto 4, 3) := by decide +kernel
theorem dX6_existing_25 : decode cX6_existing 25 = .ok (.aconst_null, 1) := by decide +kernel
theorem dX6_existing_26 : decode cX6_existing 26 = .ok (.areturn, 1) := by decide +kernel
theorem dX6_countOf_0 : decode cX6_countOf 0 = .ok (.aload_n 0, 1) := by decide +kernel
theorem dX6_countOf_1 : decode cX6_countOf 1 = .ok (.iload_n 1, 1) := by decide +kernel
theorem dX6_countOf_2 : decode cX6_countOf 2 = .ok (.invokevirtual 35, 3) := by decide +kernel
theorem dX6_countOf_5 : decode cX6_countOf 5 = .ok (.astore_n 2, 1) := by decide +kernel
theorem dX6_countOf_6 : decode cX6_countOf 6 = .ok (.aload_n 2, 1) := by decide +kernel
theorem dX6_countOf_7 : decode cX6_countOf 7 = .ok (.ifnonnull 7, 3) := by decide +kernel
theorem dX6_countOf_10 : decode cX6_countOf 10 = .ok (.iconst 0, 1) := by decide +kernel
theorem dX6_countOf_11 : decode cX6_countOf 11 = .ok (.goto 7, 3) := by decide +kernel
theorem dX6_countOf_14 : decode cX6_countOf 14 = .ok (.aload_n 2, 1) := by decide +kernel
theorem dX6_countOf_15 : decode cX6_countOf 15 = .ok (.invokevirtual 39, 3) := by decide +kernel
theorem dX6_countOf_18 : decode cX6_countOf 18 = .ok (.ireturn, 1) := by decide +kernel
theorem dX6_digestAt_0 : decode cX6_digestAt 0 = .ok (.iload_n 1, 1) := by decide +kernel
theorem dX6_digestAt_1 : decode cX6_digestAt 1 = .ok (.iconst 1, 1) := by decide +kernel
theorem dX6_digestAt_2 : decode cX6_digestAt 2 = .ok (.if_icmp .lt 18, 3) := by decide +kernel
theorem dX6_digestAt_5 : decode cX6_digestAt 5 = .ok (.iload_n 1, 1) := by decide +kernel
theorem dX6_digestAt_6 : decode cX6_digestAt 6 = .ok (.bipush 16, 2) := by decide +kernel
theorem dX6_digestAt_8 : decode cX6_digestAt 8 = .ok (.if_icmp .ge 12, 3) := by decide +kernel
theorem dX6_digestAt_11 : decode cX6_digestAt 11 = .ok (.aload_n 0, 1) := by decide +kernel
theorem dX6_digestAt_12 : decode cX6_digestAt 12 = .ok (.getfield 21, 3) := by decide +kernel
theorem dX6_digestAt_15 : decode cX6_digestAt 15 = .ok (.iload_n 1, 1) := by decide +kernel
theorem dX6_digestAt_16 : decode cX6_digestAt 16 = .ok (.laload, 1) := by decide +kernel
theorem dX6_digestAt_17 : decode cX6_digestAt 17 = .ok (.goto 4, 3) := by decide +kernel
theorem dX6_digestAt_20 : decode cX6_digestAt 20 = .ok (.lconst 0, 1) := by decide +kernel
theorem dX6_digestAt_21 : decode cX6_digestAt 21 = .ok (.lreturn, 1) := by decide +kernel
theorem dX6_put_0 : decode cX6_put 0 = .ok (.iload_n 1, 1) := by decide +kernel
theorem dX6_put_1 : decode cX6_put 1 = .ok (.invokestatic 31, 3) := by decide +kernel
theorem dX6_put_4 : decode cX6_put 4 = .ok (.ifCond .ne 4, 3) := by decide +kernel
theorem dX6_put_7 : decode cX6_put 7 = .ok (.return_, 1) := by decide +kernel
theorem dX6_put_8 : decode cX6_put 8 = .ok (.iconst 0, 1) := by decide +kernel
theorem dX6_put_9 : decode cX6_put 9 = .ok (.istore 6, 2) := by decide +kernel
theorem dX6_put_11 : decode cX6_put 11 = .ok (.iload 6, 2) := by decide +kernel
theorem dX6_put_13 : decode cX6_put 13 = .ok (.iload 5, 2) := by decide +kernel
theorem dX6_put_15 : decode cX6_put 15 = .ok (.if_icmp .ge 39, 3) := by decide +kernel
theorem dX6_put_18 : decode cX6_put 18 = .ok (.aload_n 0, 1) := by decide +kernel
theorem dX6_put_19 : decode cX6_put 19 = .ok (.getfield 11, 3) := by decide +kernel
theorem dX6_put_22 : decode cX6_put 22 = .ok (.iload_n 1, 1) := by decide +kernel
theorem dX6_put_23 : decode cX6_put 23 = .ok (.aaload, 1) := by decide +kernel
theorem dX6_put_24 : decode cX6_put 24 = .ok (.iload_n 2, 1) := by decide +kernel
theorem dX6_put_25 : decode cX6_put 25 = .ok (.iload 6, 2) := by decide +kernel
theorem dX6_put_27 : decode cX6_put 27 = .ok (.iadd, 1) := by decide +kernel
theorem dX6_put_28 : decode cX6_put 28 = .ok (.lload_n 3, 1) := by decide +kernel
theorem dX6_put_29 : decode cX6_put 29 = .ok (.bipush 8, 2) := by decide +kernel
theorem dX6_put_31 : decode cX6_put 31 = .ok (.iload 5, 2) := by decide +kernel
theorem dX6_put_33 : decode cX6_put 33 = .ok (.iconst 1, 1) := by decide +kernel
theorem dX6_put_34 : decode cX6_put 34 = .ok (.isub, 1) := by decide +kernel
theorem dX6_put_35 : decode cX6_put 35 = .ok (.iload 6, 2) := by decide +kernel
theorem dX6_put_37 : decode cX6_put 37 = .ok (.isub, 1) := by decide +kernel
theorem dX6_put_38 : decode cX6_put 38 = .ok (.imul, 1) := by decide +kernel
theorem dX6_put_39 : decode cX6_put 39 = .ok (.lushr, 1) := by decide +kernel
theorem dX6_put_40 : decode cX6_put 40 = .ok (.l2i, 1) := by decide +kernel
theorem dX6_put_41 : decode cX6_put 41 = .ok (.sipush 255, 3) := by decide +kernel
theorem dX6_put_44 : decode cX6_put 44 = .ok (.iand, 1) := by decide +kernel
theorem dX6_put_45 : decode cX6_put 45 = .ok (.invokevirtual 43, 3) := by decide +kernel
theorem dX6_put_48 : decode cX6_put 48 = .ok (.iinc 6 1, 3) := by decide +kernel
theorem dX6_put_51 : decode cX6_put 51 = .ok (.goto (-40), 3) := by decide +kernel
theorem dX6_put_54 : decode cX6_put 54 = .ok (.aload_n 0, 1) := by decide +kernel
theorem dX6_put_55 : decode cX6_put 55 = .ok (.getfield 17, 3) := by decide +kernel
theorem dX6_put_58 : decode cX6_put 58 = .ok (.iload_n 1, 1) := by decide +kernel
theorem dX6_put_59 : decode cX6_put 59 = .ok (.iconst 1, 1) := by decide +kernel
theorem dX6_put_60 : decode cX6_put 60 = .ok (.bastore, 1) := by decide +kernel
theorem dX6_put_61 : decode cX6_put 61 = .ok (.aload_n 0, 1) := by decide +kernel
theorem dX6_put_62 : decode cX6_put 62 = .ok (.iload_n 1, 1) := by decide +kernel
theorem dX6_put_63 : decode cX6_put 63 = .ok (.invokevirtual 28, 3) := by decide +kernel
theorem dX6_put_66 : decode cX6_put 66 = .ok (.return_, 1) := by decide +kernel
theorem dX6_replace_0 : decode cX6_replace 0 = .ok (.iload_n 1, 1) := by decide +kernel
theorem dX6_replace_1 : decode cX6_replace 1 = .ok (.invokestatic 31, 3) := by decide +kernel
theorem dX6_replace_4 : decode cX6_replace 4 = .ok (.ifCond .ne 4, 3) := by decide +kernel
theorem dX6_replace_7 : decode cX6_replace 7 = .ok (.return_, 1) := by decide +kernel
theorem dX6_replace_8 : decode cX6_replace 8 = .ok (.aload_n 0, 1) := by decide +kernel
theorem dX6_replace_9 : decode cX6_replace 9 = .ok (.getfield 11, 3) := by decide +kernel
theorem dX6_replace_12 : decode cX6_replace 12 = .ok (.iload_n 1, 1) := by decide +kernel
theorem dX6_replace_13 : decode cX6_replace 13 = .ok (.aaload, 1) := by decide +kernel
theorem dX6_replace_14 : decode cX6_replace 14 = .ok (.iconst 0, 1) := by decide +kernel
theorem dX6_replace_15 : decode cX6_replace 15 = .ok (.invokevirtual 47, 3) := by decide +kernel
theorem dX6_replace_18 : decode cX6_replace 18 = .ok (.aload_n 0, 1) := by decide +kernel
theorem dX6_replace_19 : decode cX6_replace 19 = .ok (.getfield 11, 3) := by decide +kernel
theorem dX6_replace_22 : decode cX6_replace 22 = .ok (.iload_n 1, 1) := by decide +kernel
theorem dX6_replace_23 : decode cX6_replace 23 = .ok (.aaload, 1) := by decide +kernel
theorem dX6_replace_24 : decode cX6_replace 24 = .ok (.aload_n 2, 1) := by decide +kernel
theorem dX6_replace_25 : decode cX6_replace 25 = .ok (.invokevirtual 50, 3) := by decide +kernel
theorem dX6_replace_28 : decode cX6_replace 28 = .ok (.aload_n 0, 1) := by decide +kernel
theorem dX6_replace_29 : decode cX6_replace 29 = .ok (.getfield 17, 3) := by decide +kernel
theorem dX6_replace_32 : decode cX6_replace 32 = .ok (.iload_n 1, 1) := by decide +kernel
theorem dX6_replace_33 : decode cX6_replace 33 = .ok (.iconst 1, 1) := by decide +kernel
theorem dX6_replace_34 : decode cX6_replace 34 = .ok (.bastore, 1) := by decide +kernel
theorem dX6_replace_35 : decode cX6_replace 35 = .ok (.aload_n 0, 1) := by decide +kernel
theorem dX6_replace_36 : decode cX6_replace 36 = .ok (.iload_n 1, 1) := by decide +kernel
theorem dX6_replace_37 : decode cX6_replace 37 = .ok (.invokevirtual 28, 3) := by decide +kernel
theorem dX6_replace_40 : decode cX6_replace 40 = .ok (.return_, 1) := by decide +kernel
theorem dX6_remove_0 : decode cX6_remove 0 = .ok (.iload_n 1, 1) := by decide +kernel
theorem dX6_remove_1 : decode cX6_remove 1 = .ok (.invokestatic 31, 3) := by decide +kernel
theorem dX6_remove_4 : decode cX6_remove 4 = .ok (.ifCond .ne 4, 3) := by decide +kernel
theorem dX6_remove_7 : decode cX6_remove 7 = .ok (.return_, 1) := by decide +kernel
theorem dX6_remove_8 : decode cX6_remove 8 = .ok (.aload_n 0, 1) := by decide +kernel
theorem dX6_remove_9 : decode cX6_remove 9 = .ok (.getfield 11, 3) := by decide +kernel
theorem dX6_remove_12 : decode cX6_remove 12 = .ok (.iload_n 1, 1) := by decide +kernel
theorem dX6_remove_13 : decode cX6_remove 13 = .ok (.aaload, 1) := by decide +kernel
theorem dX6_remove_14 : decode cX6_remove 14 = .ok (.iconst 0, 1) := by decide +kernel
theorem dX6_remove_15 : decode cX6_remove 15 = .ok (.invokevirtual 47, 3) := by decide +kernel
theorem dX6_remove_18 : decode cX6_remove 18 = .ok (.aload_n 0, 1) := by decide +kernel
theorem dX6_remove_19 : decode cX6_remove 19 = .ok (.getfield 17, 3) := by decide +kernel
theorem dX6_remove_22 : decode cX6_remove 22 = .ok (.iload_n 1, 1) := by decide +kernel
theorem dX6_remove_23 : decode cX6_remove 23 = .ok (.iconst 0, 1) := by decide +kernel
theorem dX6_remove_24 : decode cX6_remove 24 = .ok (.bastore, 1) := by decide +kernel
theorem dX6_remove_25 : decode cX6_remove 25 = .ok (.aload_n 0, 1) := by decide +kernel
theorem dX6_remove_26 : decode cX6_remove 26 = .ok (.iload_n 1, 1) := by decide +kernel
theorem dX6_remove_27 : decode cX6_remove 27 = .ok (.invokevirtual 28, 3) := by decide +kernel
theorem dX6_remove_30 : decode cX6_remove 30 = .ok (.return_, 1) := by decide +kernel
theorem dX6_refresh_0 : decode cX6_refresh 0 = .ok (.iload_n 1, 1) := by decide +kernel
theorem dX6_refresh_1 : decode cX6_refresh 1 = .ok (.invokestatic 31, 3) := by decide +kernel
theorem dX6_refresh_4 : decode cX6_refresh 4 = .ok (.ifCond .ne 4, 3) := by decide +kernel
theorem dX6_refresh_7 : decode cX6_refresh 7 = .ok (.return_, 1) := by decide +kernel
theorem dX6_refresh_8 : decode cX6_refresh 8 = .ok (.aload_n 0, 1) := by decide +kernel
theorem dX6_refresh_9 : decode cX6_refresh 9 = .ok (.getfield 21, 3) := by decide +kernel
theorem dX6_refresh_12 : decode cX6_refresh 12 = .ok (.bipush 8, 2) := by decide +kernel
theorem dX6_refresh_14 : decode cX6_refresh 14 = .ok (.iload_n 1, 1) := by decide +kernel
theorem dX6_refresh_15 : decode cX6_refresh 15 = .ok (.iadd, 1) := by decide +kernel
theorem dX6_refresh_16 : decode cX6_refresh 16 = .ok (.aload_n 0, 1) := by decide +kernel
theorem dX6_refresh_17 : decode cX6_refresh 17 = .ok (.getfield 17, 3) := by decide +kernel
theorem dX6_refresh_20 : decode cX6_refresh 20 = .ok (.iload_n 1, 1) := by decide +kernel
theorem dX6_refresh_21 : decode cX6_refresh 21 = .ok (.baload, 1) := by decide +kernel
theorem dX6_refresh_22 : decode cX6_refresh 22 = .ok (.ifCond .eq 19, 3) := by decide +kernel
theorem dX6_refresh_25 : decode cX6_refresh 25 = .ok (.aload_n 0, 1) := by decide +kernel
theorem dX6_refresh_26 : decode cX6_refresh 26 = .ok (.getfield 11, 3) := by decide +kernel
theorem dX6_refresh_29 : decode cX6_refresh 29 = .ok (.iload_n 1, 1) := by decide +kernel
theorem dX6_refresh_30 : decode cX6_refresh 30 = .ok (.aaload, 1) := by decide +kernel
theorem dX6_refresh_31 : decode cX6_refresh 31 = .ok (.iconst 0, 1) := by decide +kernel
theorem dX6_refresh_32 : decode cX6_refresh 32 = .ok (.sipush 500, 3) := by decide +kernel
theorem dX6_refresh_35 : decode cX6_refresh 35 = .ok (.invokevirtual 54, 3) := by decide +kernel
theorem dX6_refresh_38 : decode cX6_refresh 38 = .ok (.goto 4, 3) := by decide +kernel
theorem dX6_refresh_41 : decode cX6_refresh 41 = .ok (.lconst 0, 1) := by decide +kernel
theorem dX6_refresh_42 : decode cX6_refresh 42 = .ok (.lastore, 1) := by decide +kernel
theorem dX6_refresh_43 : decode cX6_refresh 43 = .ok (.bipush 8, 2) := by decide +kernel
theorem dX6_refresh_45 : decode cX6_refresh 45 = .ok (.iload_n 1, 1) := by decide +kernel
theorem dX6_refresh_46 : decode cX6_refresh 46 = .ok (.iadd, 1) := by decide +kernel
theorem dX6_refresh_47 : decode cX6_refresh 47 = .ok (.iconst 2, 1) := by decide +kernel
theorem dX6_refresh_48 : decode cX6_refresh 48 = .ok (.idiv, 1) := by decide +kernel
theorem dX6_refresh_49 : decode cX6_refresh 49 = .ok (.istore_n 2, 1) := by decide +kernel
theorem dX6_refresh_50 : decode cX6_refresh 50 = .ok (.iload_n 2, 1) := by decide +kernel
theorem dX6_refresh_51 : decode cX6_refresh 51 = .ok (.iconst 1, 1) := by decide +kernel
theorem dX6_refresh_52 : decode cX6_refresh 52 = .ok (.if_icmp .lt 43, 3) := by decide +kernel
theorem dX6_refresh_55 : decode cX6_refresh 55 = .ok (.aload_n 0, 1) := by decide +kernel
theorem dX6_refresh_56 : decode cX6_refresh 56 = .ok (.getfield 21, 3) := by decide +kernel
theorem dX6_refresh_59 : decode cX6_refresh 59 = .ok (.iload_n 2, 1) := by decide +kernel
theorem dX6_refresh_60 : decode cX6_refresh 60 = .ok (.ldc2_w 58, 3) := by decide +kernel
theorem dX6_refresh_63 : decode cX6_refresh 63 = .ok (.aload_n 0, 1) := by decide +kernel
theorem dX6_refresh_64 : decode cX6_refresh 64 = .ok (.getfield 21, 3) := by decide +kernel
theorem dX6_refresh_67 : decode cX6_refresh 67 = .ok (.iconst 2, 1) := by decide +kernel
theorem dX6_refresh_68 : decode cX6_refresh 68 = .ok (.iload_n 2, 1) := by decide +kernel
theorem dX6_refresh_69 : decode cX6_refresh 69 = .ok (.imul, 1) := by decide +kernel
theorem dX6_refresh_70 : decode cX6_refresh 70 = .ok (.laload, 1) := by decide +kernel
theorem dX6_refresh_71 : decode cX6_refresh 71 = .ok (.invokestatic 60, 3) := by decide +kernel
theorem dX6_refresh_74 : decode cX6_refresh 74 = .ok (.aload_n 0, 1) := by decide +kernel
theorem dX6_refresh_75 : decode cX6_refresh 75 = .ok (.getfield 21, 3) := by decide +kernel
theorem dX6_refresh_78 : decode cX6_refresh 78 = .ok (.iconst 2, 1) := by decide +kernel
theorem dX6_refresh_79 : decode cX6_refresh 79 = .ok (.iload_n 2, 1) := by decide +kernel
theorem dX6_refresh_80 : decode cX6_refresh 80 = .ok (.imul, 1) := by decide +kernel
theorem dX6_refresh_81 : decode cX6_refresh 81 = .ok (.iconst 1, 1) := by decide +kernel
theorem dX6_refresh_82 : decode cX6_refresh 82 = .ok (.iadd, 1) := by decide +kernel
theorem dX6_refresh_83 : decode cX6_refresh 83 = .ok (.laload, 1) := by decide +kernel
theorem dX6_refresh_84 : decode cX6_refresh 84 = .ok (.invokestatic 60, 3) := by decide +kernel
theorem dX6_refresh_87 : decode cX6_refresh 87 = .ok (.lastore, 1) := by decide +kernel
theorem dX6_refresh_88 : decode cX6_refresh 88 = .ok (.iload_n 2, 1) := by decide +kernel
theorem dX6_refresh_89 : decode cX6_refresh 89 = .ok (.iconst 2, 1) := by decide +kernel
theorem dX6_refresh_90 : decode cX6_refresh 90 = .ok (.idiv, 1) := by decide +kernel
theorem dX6_refresh_91 : decode cX6_refresh 91 = .ok (.istore_n 2, 1) := by decide +kernel
theorem dX6_refresh_92 : decode cX6_refresh 92 = .ok (.goto (-42), 3) := by decide +kernel
theorem dX6_refresh_95 : decode cX6_refresh 95 = .ok (.return_, 1) := by decide +kernel
theorem dX6_mixed_0 : decode cX6_mixed 0 = .ok (.lload_n 0, 1) := by decide +kernel
theorem dX6_mixed_1 : decode cX6_mixed 1 = .ok (.lstore 4, 2) := by decide +kernel
theorem dX6_mixed_3 : decode cX6_mixed 3 = .ok (.bipush 56, 2) := by decide +kernel
theorem dX6_mixed_5 : decode cX6_mixed 5 = .ok (.istore 6, 2) := by decide +kernel
theorem dX6_mixed_7 : decode cX6_mixed 7 = .ok (.iload 6, 2) := by decide +kernel
theorem dX6_mixed_9 : decode cX6_mixed 9 = .ok (.ifCond .lt 26, 3) := by decide +kernel
theorem dX6_mixed_12 : decode cX6_mixed 12 = .ok (.lload 4, 2) := by decide +kernel
theorem dX6_mixed_14 : decode cX6_mixed 14 = .ok (.lload_n 2, 1) := by decide +kernel
theorem dX6_mixed_15 : decode cX6_mixed 15 = .ok (.iload 6, 2) := by decide +kernel
theorem dX6_mixed_17 : decode cX6_mixed 17 = .ok (.lushr, 1) := by decide +kernel
theorem dX6_mixed_18 : decode cX6_mixed 18 = .ok (.ldc2_w 64, 3) := by decide +kernel
theorem dX6_mixed_21 : decode cX6_mixed 21 = .ok (.land, 1) := by decide +kernel
theorem dX6_mixed_22 : decode cX6_mixed 22 = .ok (.lxor, 1) := by decide +kernel
theorem dX6_mixed_23 : decode cX6_mixed 23 = .ok (.ldc2_w 66, 3) := by decide +kernel
theorem dX6_mixed_26 : decode cX6_mixed 26 = .ok (.lmul, 1) := by decide +kernel
theorem dX6_mixed_27 : decode cX6_mixed 27 = .ok (.lstore 4, 2) := by decide +kernel
theorem dX6_mixed_29 : decode cX6_mixed 29 = .ok (.iinc 6 (-8), 3) := by decide +kernel
theorem dX6_mixed_32 : decode cX6_mixed 32 = .ok (.goto (-25), 3) := by decide +kernel
theorem dX6_mixed_35 : decode cX6_mixed 35 = .ok (.lload 4, 2) := by decide +kernel
theorem dX6_mixed_37 : decode cX6_mixed 37 = .ok (.lreturn, 1) := by decide +kernel
theorem dX7_init_0 : decode cX7_init 0 = .ok (.aload_n 0, 1) := by decide +kernel
theorem dX7_init_1 : decode cX7_init 1 = .ok (.invokespecial 3, 3) := by decide +kernel
theorem dX7_init_4 : decode cX7_init 4 = .ok (.aload_n 0, 1) := by decide +kernel
theorem dX7_init_5 : decode cX7_init 5 = .ok (.sipush 500, 3) := by decide +kernel
theorem dX7_init_8 : decode cX7_init 8 = .ok (.newarray .long, 2) := by decide +kernel
theorem dX7_init_10 : decode cX7_init 10 = .ok (.putfield 9, 3) := by decide +kernel
theorem dX7_init_13 : decode cX7_init 13 = .ok (.aload_n 0, 1) := by decide +kernel
theorem dX7_init_14 : decode cX7_init 14 = .ok (.sipush 500, 3) := by decide +kernel
theorem dX7_init_17 : decode cX7_init 17 = .ok (.newarray .long, 2) := by decide +kernel
theorem dX7_init_19 : decode cX7_init 19 = .ok (.putfield 15, 3) := by decide +kernel
theorem dX7_init_22 : decode cX7_init 22 = .ok (.return_, 1) := by decide +kernel
theorem dX7_count_0 : decode cX7_count 0 = .ok (.aload_n 0, 1) := by decide +kernel
theorem dX7_count_1 : decode cX7_count 1 = .ok (.getfield 18, 3) := by decide +kernel
theorem dX7_count_4 : decode cX7_count 4 = .ok (.ireturn, 1) := by decide +kernel
theorem dX7_block_0 : decode cX7_block 0 = .ok (.aload_n 0, 1) := by decide +kernel
theorem dX7_block_1 : decode cX7_block 1 = .ok (.getfield 22, 3) := by decide +kernel
theorem dX7_block_4 : decode cX7_block 4 = .ok (.ireturn, 1) := by decide +kernel
theorem dX7_k_0 : decode cX7_k 0 = .ok (.aload_n 0, 1) := by decide +kernel
theorem dX7_k_1 : decode cX7_k 1 = .ok (.getfield 25, 3) := by decide +kernel
theorem dX7_k_4 : decode cX7_k 4 = .ok (.ireturn, 1) := by decide +kernel
theorem dX7_fill_0 : decode cX7_fill 0 = .ok (.aload_n 0, 1) := by decide +kernel
theorem dX7_fill_1 : decode cX7_fill 1 = .ok (.iload_n 2, 1) := by decide +kernel
theorem dX7_fill_2 : decode cX7_fill 2 = .ok (.putfield 22, 3) := by decide +kernel
theorem dX7_fill_5 : decode cX7_fill 5 = .ok (.aload_n 0, 1) := by decide +kernel
theorem dX7_fill_6 : decode cX7_fill 6 = .ok (.iload_n 3, 1) := by decide +kernel
theorem dX7_fill_7 : decode cX7_fill 7 = .ok (.putfield 25, 3) := by decide +kernel
theorem dX7_fill_10 : decode cX7_fill 10 = .ok (.aload_n 0, 1) := by decide +kernel
theorem dX7_fill_11 : decode cX7_fill 11 = .ok (.iconst 0, 1) := by decide +kernel
theorem dX7_fill_12 : decode cX7_fill 12 = .ok (.putfield 18, 3) := by decide +kernel
theorem dX7_fill_15 : decode cX7_fill 15 = .ok (.aload_n 1, 1) := by decide +kernel
theorem dX7_fill_16 : decode cX7_fill 16 = .ok (.ifnonnull 4, 3) := by decide +kernel
theorem dX7_fill_19 : decode cX7_fill 19 = .ok (.return_, 1) := by decide +kernel
theorem dX7_fill_20 : decode cX7_fill 20 = .ok (.iconst 0, 1) := by decide +kernel
theorem dX7_fill_21 : decode cX7_fill 21 = .ok (.istore 4, 2) := by decide +kernel
theorem dX7_fill_23 : decode cX7_fill 23 = .ok (.aload_n 0, 1) := by decide +kernel
theorem dX7_fill_24 : decode cX7_fill 24 = .ok (.getfield 18, 3) := by decide +kernel
theorem dX7_fill_27 : decode cX7_fill 27 = .ok (.sipush 500, 3) := by decide +kernel
theorem dX7_fill_30 : decode cX7_fill 30 = .ok (.if_icmp .ge 83, 3) := by decide +kernel
theorem dX7_fill_33 : decode cX7_fill 33 = .ok (.aload_n 1, 1) := by decide +kernel
theorem dX7_fill_34 : decode cX7_fill 34 = .ok (.iload 4, 2) := by decide +kernel
theorem dX7_fill_36 : decode cX7_fill 36 = .ok (.aload_n 0, 1) := by decide +kernel
theorem dX7_fill_37 : decode cX7_fill 37 = .ok (.getfield 22, 3) := by decide +kernel
theorem dX7_fill_40 : decode cX7_fill 40 = .ok (.invokevirtual 28, 3) := by decide +kernel
theorem dX7_fill_43 : decode cX7_fill 43 = .ok (.ifCond .eq 70, 3) := by decide +kernel
theorem dX7_fill_46 : decode cX7_fill 46 = .ok (.aload_n 0, 1) := by decide +kernel
theorem dX7_fill_47 : decode cX7_fill 47 = .ok (.getfield 9, 3) := by decide +kernel
theorem dX7_fill_50 : decode cX7_fill 50 = .ok (.aload_n 0, 1) := by decide +kernel
theorem dX7_fill_51 : decode cX7_fill 51 = .ok (.getfield 18, 3) := by decide +kernel
theorem dX7_fill_54 : decode cX7_fill 54 = .ok (.aload_n 1, 1) := by decide +kernel
theorem dX7_fill_55 : decode cX7_fill 55 = .ok (.iload 4, 2) := by decide +kernel
theorem dX7_fill_57 : decode cX7_fill 57 = .ok (.aload_n 0, 1) := by decide +kernel
theorem dX7_fill_58 : decode cX7_fill 58 = .ok (.getfield 22, 3) := by decide +kernel
theorem dX7_fill_61 : decode cX7_fill 61 = .ok (.invokevirtual 34, 3) := by decide +kernel
theorem dX7_fill_64 : decode cX7_fill 64 = .ok (.lastore, 1) := by decide +kernel
theorem dX7_fill_65 : decode cX7_fill 65 = .ok (.aload_n 0, 1) := by decide +kernel
theorem dX7_fill_66 : decode cX7_fill 66 = .ok (.getfield 15, 3) := by decide +kernel
theorem dX7_fill_69 : decode cX7_fill 69 = .ok (.aload_n 0, 1) := by decide +kernel
theorem dX7_fill_70 : decode cX7_fill 70 = .ok (.getfield 18, 3) := by decide +kernel
theorem dX7_fill_73 : decode cX7_fill 73 = .ok (.aload_n 1, 1) := by decide +kernel
theorem dX7_fill_74 : decode cX7_fill 74 = .ok (.iload 4, 2) := by decide +kernel
theorem dX7_fill_76 : decode cX7_fill 76 = .ok (.aload_n 0, 1) := by decide +kernel
theorem dX7_fill_77 : decode cX7_fill 77 = .ok (.getfield 22, 3) := by decide +kernel
theorem dX7_fill_80 : decode cX7_fill 80 = .ok (.invokevirtual 38, 3) := by decide +kernel
theorem dX7_fill_83 : decode cX7_fill 83 = .ok (.aload_n 0, 1) := by decide +kernel
theorem dX7_fill_84 : decode cX7_fill 84 = .ok (.getfield 25, 3) := by decide +kernel
theorem dX7_fill_87 : decode cX7_fill 87 = .ok (.invokestatic 41, 3) := by decide +kernel
theorem dX7_fill_90 : decode cX7_fill 90 = .ok (.lastore, 1) := by decide +kernel
theorem dX7_fill_91 : decode cX7_fill 91 = .ok (.aload_n 0, 1) := by decide +kernel
theorem dX7_fill_92 : decode cX7_fill 92 = .ok (.dup, 1) := by decide +kernel
theorem dX7_fill_93 : decode cX7_fill 93 = .ok (.getfield 18, 3) := by decide +kernel
theorem dX7_fill_96 : decode cX7_fill 96 = .ok (.iconst 1, 1) := by decide +kernel
theorem dX7_fill_97 : decode cX7_fill 97 = .ok (.iadd, 1) := by decide +kernel
theorem dX7_fill_98 : decode cX7_fill 98 = .ok (.putfield 18, 3) := by decide +kernel
theorem dX7_fill_101 : decode cX7_fill 101 = .ok (.iload 4, 2) := by decide +kernel
theorem dX7_fill_103 : decode cX7_fill 103 = .ok (.aload_n 0, 1) := by decide +kernel
theorem dX7_fill_104 : decode cX7_fill 104 = .ok (.getfield 22, 3) := by decide +kernel
theorem dX7_fill_107 : decode cX7_fill 107 = .ok (.iadd, 1) := by decide +kernel
theorem dX7_fill_108 : decode cX7_fill 108 = .ok (.istore 4, 2) := by decide +kernel
theorem dX7_fill_110 : decode cX7_fill 110 = .ok (.goto (-87), 3) := by decide +kernel
theorem dX7_fill_113 : decode cX7_fill 113 = .ok (.return_, 1) := by decide +kernel
theorem dX7_copyFrom_0 : decode cX7_copyFrom 0 = .ok (.aload_n 0, 1) := by decide +kernel
theorem dX7_copyFrom_1 : decode cX7_copyFrom 1 = .ok (.aload_n 1, 1) := by decide +kernel
theorem dX7_copyFrom_2 : decode cX7_copyFrom 2 = .ok (.getfield 22, 3) := by decide +kernel
theorem dX7_copyFrom_5 : decode cX7_copyFrom 5 = .ok (.putfield 22, 3) := by decide +kernel
theorem dX7_copyFrom_8 : decode cX7_copyFrom 8 = .ok (.aload_n 0, 1) := by decide +kernel
theorem dX7_copyFrom_9 : decode cX7_copyFrom 9 = .ok (.aload_n 1, 1) := by decide +kernel
theorem dX7_copyFrom_10 : decode cX7_copyFrom 10 = .ok (.getfield 25, 3) := by decide +kernel
theorem dX7_copyFrom_13 : decode cX7_copyFrom 13 = .ok (.putfield 25, 3) := by decide +kernel
theorem dX7_copyFrom_16 : decode cX7_copyFrom 16 = .ok (.aload_n 0, 1) := by decide +kernel
theorem dX7_copyFrom_17 : decode cX7_copyFrom 17 = .ok (.aload_n 1, 1) := by decide +kernel
theorem dX7_copyFrom_18 : decode cX7_copyFrom 18 = .ok (.getfield 18, 3) := by decide +kernel
theorem dX7_copyFrom_21 : decode cX7_copyFrom 21 = .ok (.putfield 18, 3) := by decide +kernel
theorem dX7_copyFrom_24 : decode cX7_copyFrom 24 = .ok (.aload_n 1, 1) := by decide +kernel
theorem dX7_copyFrom_25 : decode cX7_copyFrom 25 = .ok (.getfield 9, 3) := by decide +kernel
theorem dX7_copyFrom_28 : decode cX7_copyFrom 28 = .ok (.iconst 0, 1) := by decide +kernel
theorem dX7_copyFrom_29 : decode cX7_copyFrom 29 = .ok (.aload_n 0, 1) := by decide +kernel
theorem dX7_copyFrom_30 : decode cX7_copyFrom 30 = .ok (.getfield 9, 3) := by decide +kernel
theorem dX7_copyFrom_33 : decode cX7_copyFrom 33 = .ok (.iconst 0, 1) := by decide +kernel
theorem dX7_copyFrom_34 : decode cX7_copyFrom 34 = .ok (.aload_n 0, 1) := by decide +kernel
theorem dX7_copyFrom_35 : decode cX7_copyFrom 35 = .ok (.getfield 18, 3) := by decide +kernel
theorem dX7_copyFrom_38 : decode cX7_copyFrom 38 = .ok (.invokestatic 45, 3) := by decide +kernel
theorem dX7_copyFrom_41 : decode cX7_copyFrom 41 = .ok (.aload_n 1, 1) := by decide +kernel
theorem dX7_copyFrom_42 : decode cX7_copyFrom 42 = .ok (.getfield 15, 3) := by decide +kernel
theorem dX7_copyFrom_45 : decode cX7_copyFrom 45 = .ok (.iconst 0, 1) := by decide +kernel
theorem dX7_copyFrom_46 : decode cX7_copyFrom 46 = .ok (.aload_n 0, 1) := by decide +kernel
theorem dX7_copyFrom_47 : decode cX7_copyFrom 47 = .ok (.getfield 15, 3) := by decide +kernel
theorem dX7_copyFrom_50 : decode cX7_copyFrom 50 = .ok (.iconst 0, 1) := by decide +kernel
theorem dX7_copyFrom_51 : decode cX7_copyFrom 51 = .ok (.aload_n 0, 1) := by decide +kernel
theorem dX7_copyFrom_52 : decode cX7_copyFrom 52 = .ok (.getfield 18, 3) := by decide +kernel
theorem dX7_copyFrom_55 : decode cX7_copyFrom 55 = .ok (.invokestatic 45, 3) := by decide +kernel
theorem dX7_copyFrom_58 : decode cX7_copyFrom 58 = .ok (.return_, 1) := by decide +kernel
theorem dX7_sumOf_0 : decode cX7_sumOf 0 = .ok (.iload_n 1, 1) := by decide +kernel
theorem dX7_sumOf_1 : decode cX7_sumOf 1 = .ok (.ifCond .lt 20, 3) := by decide +kernel
theorem dX7_sumOf_4 : decode cX7_sumOf 4 = .ok (.iload_n 1, 1) := by decide +kernel
theorem dX7_sumOf_5 : decode cX7_sumOf 5 = .ok (.aload_n 0, 1) := by decide +kernel
theorem dX7_sumOf_6 : decode cX7_sumOf 6 = .ok (.getfield 18, 3) := by decide +kernel
theorem dX7_sumOf_9 : decode cX7_sumOf 9 = .ok (.if_icmp .ge 12, 3) := by decide +kernel
theorem dX7_sumOf_12 : decode cX7_sumOf 12 = .ok (.iload_n 2, 1) := by decide +kernel
theorem dX7_sumOf_13 : decode cX7_sumOf 13 = .ok (.ifCond .lt 8, 3) := by decide +kernel
theorem dX7_sumOf_16 : decode cX7_sumOf 16 = .ok (.iload_n 2, 1) := by decide +kernel
theorem dX7_sumOf_17 : decode cX7_sumOf 17 = .ok (.iconst 1, 1) := by decide +kernel
theorem dX7_sumOf_18 : decode cX7_sumOf 18 = .ok (.if_icmp .le 7, 3) := by decide +kernel
theorem dX7_sumOf_21 : decode cX7_sumOf 21 = .ok (.ldc2_w 51, 3) := by decide +kernel
theorem dX7_sumOf_24 : decode cX7_sumOf 24 = .ok (.lreturn, 1) := by decide +kernel
theorem dX7_sumOf_25 : decode cX7_sumOf 25 = .ok (.iload_n 2, 1) := by decide +kernel
theorem dX7_sumOf_26 : decode cX7_sumOf 26 = .ok (.ifCond .ne 12, 3) := by decide +kernel
theorem dX7_sumOf_29 : decode cX7_sumOf 29 = .ok (.aload_n 0, 1) := by decide +kernel
theorem dX7_sumOf_30 : decode cX7_sumOf 30 = .ok (.getfield 9, 3) := by decide +kernel
theorem dX7_sumOf_33 : decode cX7_sumOf 33 = .ok (.iload_n 1, 1) := by decide +kernel
theorem dX7_sumOf_34 : decode cX7_sumOf 34 = .ok (.laload, 1) := by decide +kernel
theorem dX7_sumOf_35 : decode cX7_sumOf 35 = .ok (.goto 9, 3) := by decide +kernel
theorem dX7_sumOf_38 : decode cX7_sumOf 38 = .ok (.aload_n 0, 1) := by decide +kernel
theorem dX7_sumOf_39 : decode cX7_sumOf 39 = .ok (.getfield 15, 3) := by decide +kernel
theorem dX7_sumOf_42 : decode cX7_sumOf 42 = .ok (.iload_n 1, 1) := by decide +kernel
theorem dX7_sumOf_43 : decode cX7_sumOf 43 = .ok (.laload, 1) := by decide +kernel
theorem dX7_sumOf_44 : decode cX7_sumOf 44 = .ok (.lreturn, 1) := by decide +kernel
theorem dX7_hasWeak_0 : decode cX7_hasWeak 0 = .ok (.iconst 0, 1) := by decide +kernel
theorem dX7_hasWeak_1 : decode cX7_hasWeak 1 = .ok (.istore_n 3, 1) := by decide +kernel
theorem dX7_hasWeak_2 : decode cX7_hasWeak 2 = .ok (.iload_n 3, 1) := by decide +kernel
theorem dX7_hasWeak_3 : decode cX7_hasWeak 3 = .ok (.aload_n 0, 1) := by decide +kernel
theorem dX7_hasWeak_4 : decode cX7_hasWeak 4 = .ok (.getfield 18, 3) := by decide +kernel
theorem dX7_hasWeak_7 : decode cX7_hasWeak 7 = .ok (.if_icmp .ge 22, 3) := by decide +kernel
theorem dX7_hasWeak_10 : decode cX7_hasWeak 10 = .ok (.aload_n 0, 1) := by decide +kernel
theorem dX7_hasWeak_11 : decode cX7_hasWeak 11 = .ok (.getfield 9, 3) := by decide +kernel
theorem dX7_hasWeak_14 : decode cX7_hasWeak 14 = .ok (.iload_n 3, 1) := by decide +kernel
theorem dX7_hasWeak_15 : decode cX7_hasWeak 15 = .ok (.laload, 1) := by decide +kernel
theorem dX7_hasWeak_16 : decode cX7_hasWeak 16 = .ok (.lload_n 1, 1) := by decide +kernel
theorem dX7_hasWeak_17 : decode cX7_hasWeak 17 = .ok (.lcmp, 1) := by decide +kernel
theorem dX7_hasWeak_18 : decode cX7_hasWeak 18 = .ok (.ifCond .ne 5, 3) := by decide +kernel
theorem dX7_hasWeak_21 : decode cX7_hasWeak 21 = .ok (.iconst 1, 1) := by decide +kernel
theorem dX7_hasWeak_22 : decode cX7_hasWeak 22 = .ok (.ireturn, 1) := by decide +kernel
theorem dX7_hasWeak_23 : decode cX7_hasWeak 23 = .ok (.iinc 3 1, 3) := by decide +kernel
theorem dX7_hasWeak_26 : decode cX7_hasWeak 26 = .ok (.goto (-24), 3) := by decide +kernel
theorem dX7_hasWeak_29 : decode cX7_hasWeak 29 = .ok (.iconst 0, 1) := by decide +kernel
theorem dX7_hasWeak_30 : decode cX7_hasWeak 30 = .ok (.ireturn, 1) := by decide +kernel
theorem dX7_find_0 : decode cX7_find 0 = .ok (.iconst 0, 1) := by decide +kernel
theorem dX7_find_1 : decode cX7_find 1 = .ok (.istore 5, 2) := by decide +kernel
theorem dX7_find_3 : decode cX7_find 3 = .ok (.iload 5, 2) := by decide +kernel
theorem dX7_find_5 : decode cX7_find 5 = .ok (.aload_n 0, 1) := by decide +kernel
theorem dX7_find_6 : decode cX7_find 6 = .ok (.getfield 18, 3) := by decide +kernel
theorem dX7_find_9 : decode cX7_find 9 = .ok (.if_icmp .ge 36, 3) := by decide +kernel
theorem dX7_find_12 : decode cX7_find 12 = .ok (.aload_n 0, 1) := by decide +kernel
theorem dX7_find_13 : decode cX7_find 13 = .ok (.getfield 9, 3) := by decide +kernel
theorem dX7_find_16 : decode cX7_find 16 = .ok (.iload 5, 2) := by decide +kernel
theorem dX7_find_18 : decode cX7_find 18 = .ok (.laload, 1) := by decide +kernel
theorem dX7_find_19 : decode cX7_find 19 = .ok (.lload_n 1, 1) := by decide +kernel
theorem dX7_find_20 : decode cX7_find 20 = .ok (.lcmp, 1) := by decide +kernel
theorem dX7_find_21 : decode cX7_find 21 = .ok (.ifCond .ne 18, 3) := by decide +kernel
theorem dX7_find_24 : decode cX7_find 24 = .ok (.aload_n 0, 1) := by decide +kernel
theorem dX7_find_25 : decode cX7_find 25 = .ok (.getfield 15, 3) := by decide +kernel
theorem dX7_find_28 : decode cX7_find 28 = .ok (.iload 5, 2) := by decide +kernel
theorem dX7_find_30 : decode cX7_find 30 = .ok (.laload, 1) := by decide +kernel
theorem dX7_find_31 : decode cX7_find 31 = .ok (.lload_n 3, 1) := by decide +kernel
theorem dX7_find_32 : decode cX7_find 32 = .ok (.lcmp, 1) := by decide +kernel
theorem dX7_find_33 : decode cX7_find 33 = .ok (.ifCond .ne 6, 3) := by decide +kernel
theorem dX7_find_36 : decode cX7_find 36 = .ok (.iload 5, 2) := by decide +kernel
theorem dX7_find_38 : decode cX7_find 38 = .ok (.ireturn, 1) := by decide +kernel
theorem dX7_find_39 : decode cX7_find 39 = .ok (.iinc 5 1, 3) := by decide +kernel
theorem dX7_find_42 : decode cX7_find 42 = .ok (.goto (-39), 3) := by decide +kernel
theorem dX7_find_45 : decode cX7_find 45 = .ok (.bipush (-2), 2) := by decide +kernel
theorem dX7_find_47 : decode cX7_find 47 = .ok (.ireturn, 1) := by decide +kernel
theorem dX8_init_0 : decode cX8_init 0 = .ok (.aload_n 0, 1) := by decide +kernel
theorem dX8_init_1 : decode cX8_init 1 = .ok (.invokespecial 3, 3) := by decide +kernel
theorem dX8_init_4 : decode cX8_init 4 = .ok (.aload_n 0, 1) := by decide +kernel
theorem dX8_init_5 : decode cX8_init 5 = .ok (.new 9, 3) := by decide +kernel
theorem dX8_init_8 : decode cX8_init 8 = .ok (.dup, 1) := by decide +kernel
theorem dX8_init_9 : decode cX8_init 9 = .ok (.invokespecial 11, 3) := by decide +kernel
theorem dX8_init_12 : decode cX8_init 12 = .ok (.putfield 12, 3) := by decide +kernel
theorem dX8_init_15 : decode cX8_init 15 = .ok (.aload_n 0, 1) := by decide +kernel
theorem dX8_init_16 : decode cX8_init 16 = .ok (.new 9, 3) := by decide +kernel
theorem dX8_init_19 : decode cX8_init 19 = .ok (.dup, 1) := by decide +kernel
theorem dX8_init_20 : decode cX8_init 20 = .ok (.invokespecial 11, 3) := by decide +kernel
theorem dX8_init_23 : decode cX8_init 23 = .ok (.putfield 16, 3) := by decide +kernel
theorem dX8_init_26 : decode cX8_init 26 = .ok (.aload_n 0, 1) := by decide +kernel
theorem dX8_init_27 : decode cX8_init 27 = .ok (.new 19, 3) := by decide +kernel
theorem dX8_init_30 : decode cX8_init 30 = .ok (.dup, 1) := by decide +kernel
theorem dX8_init_31 : decode cX8_init 31 = .ok (.invokespecial 21, 3) := by decide +kernel
theorem dX8_init_34 : decode cX8_init 34 = .ok (.putfield 22, 3) := by decide +kernel
theorem dX8_init_37 : decode cX8_init 37 = .ok (.aload_n 0, 1) := by decide +kernel
theorem dX8_init_38 : decode cX8_init 38 = .ok (.new 26, 3) := by decide +kernel
theorem dX8_init_41 : decode cX8_init 41 = .ok (.dup, 1) := by decide +kernel
theorem dX8_init_42 : decode cX8_init 42 = .ok (.aload_n 0, 1) := by decide +kernel
theorem dX8_init_43 : decode cX8_init 43 = .ok (.getfield 12, 3) := by decide +kernel
theorem dX8_init_46 : decode cX8_init 46 = .ok (.aload_n 0, 1) := by decide +kernel
theorem dX8_init_47 : decode cX8_init 47 = .ok (.getfield 16, 3) := by decide +kernel
theorem dX8_init_50 : decode cX8_init 50 = .ok (.aload_n 0, 1) := by decide +kernel
theorem dX8_init_51 : decode cX8_init 51 = .ok (.getfield 22, 3) := by decide +kernel
theorem dX8_init_54 : decode cX8_init 54 = .ok (.invokespecial 28, 3) := by decide +kernel
theorem dX8_init_57 : decode cX8_init 57 = .ok (.putfield 31, 3) := by decide +kernel
theorem dX8_init_60 : decode cX8_init 60 = .ok (.return_, 1) := by decide +kernel
theorem dX8_write_0 : decode cX8_write 0 = .ok (.iload_n 1, 1) := by decide +kernel
theorem dX8_write_1 : decode cX8_write 1 = .ok (.invokestatic 35, 3) := by decide +kernel
theorem dX8_write_4 : decode cX8_write 4 = .ok (.ifCond .eq 22, 3) := by decide +kernel
theorem dX8_write_7 : decode cX8_write 7 = .ok (.iload_n 2, 1) := by decide +kernel
theorem dX8_write_8 : decode cX8_write 8 = .ok (.invokestatic 39, 3) := by decide +kernel
theorem dX8_write_11 : decode cX8_write 11 = .ok (.ifCond .eq 15, 3) := by decide +kernel
theorem dX8_write_14 : decode cX8_write 14 = .ok (.iload 6, 2) := by decide +kernel
theorem dX8_write_16 : decode cX8_write 16 = .ok (.ifCond .lt 10, 3) := by decide +kernel
theorem dX8_write_19 : decode cX8_write 19 = .ok (.iload 6, 2) := by decide +kernel
theorem dX8_write_21 : decode cX8_write 21 = .ok (.bipush 8, 2) := by decide +kernel
theorem dX8_write_23 : decode cX8_write 23 = .ok (.if_icmp .le 5, 3) := by decide +kernel
theorem dX8_write_26 : decode cX8_write 26 = .ok (.iconst (-1), 1) := by decide +kernel
theorem dX8_write_27 : decode cX8_write 27 = .ok (.ireturn, 1) := by decide +kernel
theorem dX8_write_28 : decode cX8_write 28 = .ok (.aload_n 0, 1) := by decide +kernel
theorem dX8_write_29 : decode cX8_write 29 = .ok (.iload_n 1, 1) := by decide +kernel
theorem dX8_write_30 : decode cX8_write 30 = .ok (.invokevirtual 42, 3) := by decide +kernel
theorem dX8_write_33 : decode cX8_write 33 = .ok (.astore 7, 2) := by decide +kernel
theorem dX8_write_35 : decode cX8_write 35 = .ok (.iload_n 3, 1) := by decide +kernel
theorem dX8_write_36 : decode cX8_write 36 = .ok (.ifCond .lt 13, 3) := by decide +kernel
theorem dX8_write_39 : decode cX8_write 39 = .ok (.iload_n 3, 1) := by decide +kernel
theorem dX8_write_40 : decode cX8_write 40 = .ok (.aload 7, 2) := by decide +kernel
theorem dX8_write_42 : decode cX8_write 42 = .ok (.iload_n 2, 1) := by decide +kernel
theorem dX8_write_43 : decode cX8_write 43 = .ok (.invokevirtual 46, 3) := by decide +kernel
theorem dX8_write_46 : decode cX8_write 46 = .ok (.if_icmp .le 5, 3) := by decide +kernel
theorem dX8_write_49 : decode cX8_write 49 = .ok (.iconst (-1), 1) := by decide +kernel
theorem dX8_write_50 : decode cX8_write 50 = .ok (.ireturn, 1) := by decide +kernel
theorem dX8_write_51 : decode cX8_write 51 = .ok (.iload_n 3, 1) := by decide +kernel
theorem dX8_write_52 : decode cX8_write 52 = .ok (.iload 6, 2) := by decide +kernel
theorem dX8_write_54 : decode cX8_write 54 = .ok (.iadd, 1) := by decide +kernel
theorem dX8_write_55 : decode cX8_write 55 = .ok (.sipush 500, 3) := by decide +kernel
theorem dX8_write_58 : decode cX8_write 58 = .ok (.if_icmp .le 6, 3) := by decide +kernel
theorem dX8_write_61 : decode cX8_write 61 = .ok (.bipush (-3), 2) := by decide +kernel
theorem dX8_write_63 : decode cX8_write 63 = .ok (.ireturn, 1) := by decide +kernel
theorem dX8_write_64 : decode cX8_write 64 = .ok (.aload 7, 2) := by decide +kernel
theorem dX8_write_66 : decode cX8_write 66 = .ok (.iload_n 2, 1) := by decide +kernel
theorem dX8_write_67 : decode cX8_write 67 = .ok (.iload_n 3, 1) := by decide +kernel
theorem dX8_write_68 : decode cX8_write 68 = .ok (.lload 4, 2) := by decide +kernel
theorem dX8_write_70 : decode cX8_write 70 = .ok (.iload 6, 2) := by decide +kernel
theorem dX8_write_72 : decode cX8_write 72 = .ok (.invokevirtual 50, 3) := by decide +kernel
theorem dX8_write_75 : decode cX8_write 75 = .ok (.aload 7, 2) := by decide +kernel
theorem dX8_write_77 : decode cX8_write 77 = .ok (.iload_n 2, 1) := by decide +kernel
theorem dX8_write_78 : decode cX8_write 78 = .ok (.invokevirtual 46, 3) := by decide +kernel
theorem dX8_write_81 : decode cX8_write 81 = .ok (.ireturn, 1) := by decide +kernel
theorem dX8_again_0 : decode cX8_again 0 = .ok (.aload_n 0, 1) := by decide +kernel
theorem dX8_again_1 : decode cX8_again 1 = .ok (.iload_n 1, 1) := by decide +kernel
theorem dX8_again_2 : decode cX8_again 2 = .ok (.iload_n 2, 1) := by decide +kernel
theorem dX8_again_3 : decode cX8_again 3 = .ok (.invokevirtual 54, 3) := by decide +kernel
theorem dX8_again_6 : decode cX8_again 6 = .ok (.astore 5, 2) := by decide +kernel
theorem dX8_again_8 : decode cX8_again 8 = .ok (.aload 5, 2) := by decide +kernel
theorem dX8_again_10 : decode cX8_again 10 = .ok (.ifnull 26, 3) := by decide +kernel
theorem dX8_again_13 : decode cX8_again 13 = .ok (.aload 5, 2) := by decide +kernel
theorem dX8_again_15 : decode cX8_again 15 = .ok (.iload_n 3, 1) := by decide +kernel
theorem dX8_again_16 : decode cX8_again 16 = .ok (.iconst 1, 1) := by decide +kernel
theorem dX8_again_17 : decode cX8_again 17 = .ok (.invokevirtual 58, 3) := by decide +kernel
theorem dX8_again_20 : decode cX8_again 20 = .ok (.ifCond .eq 16, 3) := by decide +kernel
theorem dX8_again_23 : decode cX8_again 23 = .ok (.iload 4, 2) := by decide +kernel
theorem dX8_again_25 : decode cX8_again 25 = .ok (.ifCond .lt 11, 3) := by decide +kernel
theorem dX8_again_28 : decode cX8_again 28 = .ok (.iload 4, 2) := by decide +kernel
theorem dX8_again_30 : decode cX8_again 30 = .ok (.sipush 500, 3) := by decide +kernel
theorem dX8_again_33 : decode cX8_again 33 = .ok (.if_icmp .le 5, 3) := by decide +kernel
theorem dX8_again_36 : decode cX8_again 36 = .ok (.iconst (-1), 1) := by decide +kernel
theorem dX8_again_37 : decode cX8_again 37 = .ok (.ireturn, 1) := by decide +kernel
theorem dX8_again_38 : decode cX8_again 38 = .ok (.aload 5, 2) := by decide +kernel
theorem dX8_again_40 : decode cX8_again 40 = .ok (.invokevirtual 64, 3) := by decide +kernel
theorem dX8_again_43 : decode cX8_again 43 = .ok (.iload 4, 2) := by decide +kernel
theorem dX8_again_45 : decode cX8_again 45 = .ok (.iadd, 1) := by decide +kernel
theorem dX8_again_46 : decode cX8_again 46 = .ok (.sipush 500, 3) := by decide +kernel
theorem dX8_again_49 : decode cX8_again 49 = .ok (.if_icmp .le 6, 3) := by decide +kernel
theorem dX8_again_52 : decode cX8_again 52 = .ok (.bipush (-3), 2) := by decide +kernel
theorem dX8_again_54 : decode cX8_again 54 = .ok (.ireturn, 1) := by decide +kernel
theorem dX8_again_55 : decode cX8_again 55 = .ok (.iconst 0, 1) := by decide +kernel
theorem dX8_again_56 : decode cX8_again 56 = .ok (.istore 6, 2) := by decide +kernel
theorem dX8_again_58 : decode cX8_again 58 = .ok (.iload 6, 2) := by decide +kernel
theorem dX8_again_60 : decode cX8_again 60 = .ok (.iload 4, 2) := by decide +kernel
theorem dX8_again_62 : decode cX8_again 62 = .ok (.if_icmp .ge 23, 3) := by decide +kernel
theorem dX8_again_65 : decode cX8_again 65 = .ok (.aload 5, 2) := by decide +kernel
theorem dX8_again_67 : decode cX8_again 67 = .ok (.aload 5, 2) := by decide +kernel
theorem dX8_again_69 : decode cX8_again 69 = .ok (.iload_n 3, 1) := by decide +kernel
theorem dX8_again_70 : decode cX8_again 70 = .ok (.iload 6, 2) := by decide +kernel
theorem dX8_again_72 : decode cX8_again 72 = .ok (.iadd, 1) := by decide +kernel
theorem dX8_again_73 : decode cX8_again 73 = .ok (.invokevirtual 68, 3) := by decide +kernel
theorem dX8_again_76 : decode cX8_again 76 = .ok (.invokevirtual 71, 3) := by decide +kernel
theorem dX8_again_79 : decode cX8_again 79 = .ok (.iinc 6 1, 3) := by decide +kernel
theorem dX8_again_82 : decode cX8_again 82 = .ok (.goto (-24), 3) := by decide +kernel
theorem dX8_again_85 : decode cX8_again 85 = .ok (.aload_n 0, 1) := by decide +kernel
theorem dX8_again_86 : decode cX8_again 86 = .ok (.iload_n 1, 1) := by decide +kernel
theorem dX8_again_87 : decode cX8_again 87 = .ok (.invokevirtual 42, 3) := by decide +kernel
theorem dX8_again_90 : decode cX8_again 90 = .ok (.iload_n 2, 1) := by decide +kernel
theorem dX8_again_91 : decode cX8_again 91 = .ok (.invokevirtual 75, 3) := by decide +kernel
theorem dX8_again_94 : decode cX8_again 94 = .ok (.aload 5, 2) := by decide +kernel
theorem dX8_again_96 : decode cX8_again 96 = .ok (.invokevirtual 64, 3) := by decide +kernel
theorem dX8_again_99 : decode cX8_again 99 = .ok (.ireturn, 1) := by decide +kernel
theorem dX8_trim_0 : decode cX8_trim 0 = .ok (.aload_n 0, 1) := by decide +kernel
theorem dX8_trim_1 : decode cX8_trim 1 = .ok (.iload_n 1, 1) := by decide +kernel
theorem dX8_trim_2 : decode cX8_trim 2 = .ok (.iload_n 2, 1) := by decide +kernel
theorem dX8_trim_3 : decode cX8_trim 3 = .ok (.invokevirtual 54, 3) := by decide +kernel
theorem dX8_trim_6 : decode cX8_trim 6 = .ok (.astore 4, 2) := by decide +kernel
theorem dX8_trim_8 : decode cX8_trim 8 = .ok (.aload 4, 2) := by decide +kernel
theorem dX8_trim_10 : decode cX8_trim 10 = .ok (.ifnull 13, 3) := by decide +kernel
theorem dX8_trim_13 : decode cX8_trim 13 = .ok (.aload 4, 2) := by decide +kernel
theorem dX8_trim_15 : decode cX8_trim 15 = .ok (.iconst 0, 1) := by decide +kernel
theorem dX8_trim_16 : decode cX8_trim 16 = .ok (.iload_n 3, 1) := by decide +kernel
theorem dX8_trim_17 : decode cX8_trim 17 = .ok (.invokevirtual 58, 3) := by decide +kernel
theorem dX8_trim_20 : decode cX8_trim 20 = .ok (.ifCond .ne 5, 3) := by decide +kernel
theorem dX8_trim_23 : decode cX8_trim 23 = .ok (.iconst (-1), 1) := by decide +kernel
theorem dX8_trim_24 : decode cX8_trim 24 = .ok (.ireturn, 1) := by decide +kernel
theorem dX8_trim_25 : decode cX8_trim 25 = .ok (.aload 4, 2) := by decide +kernel
theorem dX8_trim_27 : decode cX8_trim 27 = .ok (.invokevirtual 64, 3) := by decide +kernel
theorem dX8_trim_30 : decode cX8_trim 30 = .ok (.istore 5, 2) := by decide +kernel
theorem dX8_trim_32 : decode cX8_trim 32 = .ok (.aload 4, 2) := by decide +kernel
theorem dX8_trim_34 : decode cX8_trim 34 = .ok (.iload_n 3, 1) := by decide +kernel
theorem dX8_trim_35 : decode cX8_trim 35 = .ok (.invokevirtual 78, 3) := by decide +kernel
theorem dX8_trim_38 : decode cX8_trim 38 = .ok (.aload_n 0, 1) := by decide +kernel
theorem dX8_trim_39 : decode cX8_trim 39 = .ok (.iload_n 1, 1) := by decide +kernel
theorem dX8_trim_40 : decode cX8_trim 40 = .ok (.invokevirtual 42, 3) := by decide +kernel
theorem dX8_trim_43 : decode cX8_trim 43 = .ok (.iload_n 2, 1) := by decide +kernel
theorem dX8_trim_44 : decode cX8_trim 44 = .ok (.invokevirtual 75, 3) := by decide +kernel
theorem dX8_trim_47 : decode cX8_trim 47 = .ok (.iload 5, 2) := by decide +kernel
theorem dX8_trim_49 : decode cX8_trim 49 = .ok (.ireturn, 1) := by decide +kernel
theorem dX8_drop_0 : decode cX8_drop 0 = .ok (.aload_n 0, 1) := by decide +kernel
theorem dX8_drop_1 : decode cX8_drop 1 = .ok (.iload_n 1, 1) := by decide +kernel
theorem dX8_drop_2 : decode cX8_drop 2 = .ok (.iload_n 2, 1) := by decide +kernel
theorem dX8_drop_3 : decode cX8_drop 3 = .ok (.invokevirtual 54, 3) := by decide +kernel
theorem dX8_drop_6 : decode cX8_drop 6 = .ok (.astore_n 3, 1) := by decide +kernel
theorem dX8_drop_7 : decode cX8_drop 7 = .ok (.aload_n 3, 1) := by decide +kernel
theorem dX8_drop_8 : decode cX8_drop 8 = .ok (.ifnonnull 5, 3) := by decide +kernel
theorem dX8_drop_11 : decode cX8_drop 11 = .ok (.iconst (-1), 1) := by decide +kernel
theorem dX8_drop_12 : decode cX8_drop 12 = .ok (.ireturn, 1) := by decide +kernel
theorem dX8_drop_13 : decode cX8_drop 13 = .ok (.aload_n 3, 1) := by decide +kernel
theorem dX8_drop_14 : decode cX8_drop 14 = .ok (.invokevirtual 64, 3) := by decide +kernel
theorem dX8_drop_17 : decode cX8_drop 17 = .ok (.istore 4, 2) := by decide +kernel
theorem dX8_drop_19 : decode cX8_drop 19 = .ok (.aload_n 0, 1) := by decide +kernel
theorem dX8_drop_20 : decode cX8_drop 20 = .ok (.iload_n 1, 1) := by decide +kernel
theorem dX8_drop_21 : decode cX8_drop 21 = .ok (.invokevirtual 42, 3) := by decide +kernel
theorem dX8_drop_24 : decode cX8_drop 24 = .ok (.iload_n 2, 1) := by decide +kernel
theorem dX8_drop_25 : decode cX8_drop 25 = .ok (.invokevirtual 81, 3) := by decide +kernel
theorem dX8_drop_28 : decode cX8_drop 28 = .ok (.iload 4, 2) := by decide +kernel
theorem dX8_drop_30 : decode cX8_drop 30 = .ok (.ireturn, 1) := by decide +kernel
theorem dX8_same_0 : decode cX8_same 0 = .ok (.iload_n 1, 1) := by decide +kernel
theorem dX8_same_1 : decode cX8_same 1 = .ok (.invokestatic 35, 3) := by decide +kernel
theorem dX8_same_4 : decode cX8_same 4 = .ok (.ifCond .eq 10, 3) := by decide +kernel
theorem dX8_same_7 : decode cX8_same 7 = .ok (.iload_n 2, 1) := by decide +kernel
theorem dX8_same_8 : decode cX8_same 8 = .ok (.invokestatic 39, 3) := by decide +kernel
theorem dX8_same_11 : decode cX8_same 11 = .ok (.ifCond .ne 5, 3) := by decide +kernel
theorem dX8_same_14 : decode cX8_same 14 = .ok (.iconst (-1), 1) := by decide +kernel
theorem dX8_same_15 : decode cX8_same 15 = .ok (.ireturn, 1) := by decide +kernel
theorem dX8_same_16 : decode cX8_same 16 = .ok (.aload_n 0, 1) := by decide +kernel
theorem dX8_same_17 : decode cX8_same 17 = .ok (.iload_n 1, 1) := by decide +kernel
theorem dX8_same_18 : decode cX8_same 18 = .ok (.invokevirtual 42, 3) := by decide +kernel
theorem dX8_same_21 : decode cX8_same 21 = .ok (.astore_n 3, 1) := by decide +kernel
theorem dX8_same_22 : decode cX8_same 22 = .ok (.aload_n 0, 1) := by decide +kernel
theorem dX8_same_23 : decode cX8_same 23 = .ok (.iconst 1, 1) := by decide +kernel
theorem dX8_same_24 : decode cX8_same 24 = .ok (.iload_n 1, 1) := by decide +kernel
theorem dX8_same_25 : decode cX8_same 25 = .ok (.isub, 1) := by decide +kernel
theorem dX8_same_26 : decode cX8_same 26 = .ok (.invokevirtual 42, 3) := by decide +kernel
theorem dX8_same_29 : decode cX8_same 29 = .ok (.iload_n 2, 1) := by decide +kernel
theorem dX8_same_30 : decode cX8_same 30 = .ok (.invokevirtual 84, 3) := by decide +kernel
theorem dX8_same_33 : decode cX8_same 33 = .ok (.astore 4, 2) := by decide +kernel
theorem dX8_same_35 : decode cX8_same 35 = .ok (.aload 4, 2) := by decide +kernel
theorem dX8_same_37 : decode cX8_same 37 = .ok (.ifnonnull 11, 3) := by decide +kernel
theorem dX8_same_40 : decode cX8_same 40 = .ok (.aload_n 3, 1) := by decide +kernel
theorem dX8_same_41 : decode cX8_same 41 = .ok (.iload_n 2, 1) := by decide +kernel
theorem dX8_same_42 : decode cX8_same 42 = .ok (.invokevirtual 81, 3) := by decide +kernel
theorem dX8_same_45 : decode cX8_same 45 = .ok (.goto 10, 3) := by decide +kernel
theorem dX8_same_48 : decode cX8_same 48 = .ok (.aload_n 3, 1) := by decide +kernel
theorem dX8_same_49 : decode cX8_same 49 = .ok (.iload_n 2, 1) := by decide +kernel
theorem dX8_same_50 : decode cX8_same 50 = .ok (.aload 4, 2) := by decide +kernel
theorem dX8_same_52 : decode cX8_same 52 = .ok (.invokevirtual 87, 3) := by decide +kernel
theorem dX8_same_55 : decode cX8_same 55 = .ok (.aload_n 3, 1) := by decide +kernel
theorem dX8_same_56 : decode cX8_same 56 = .ok (.iload_n 2, 1) := by decide +kernel
theorem dX8_same_57 : decode cX8_same 57 = .ok (.invokevirtual 46, 3) := by decide +kernel
theorem dX8_same_60 : decode cX8_same 60 = .ok (.ireturn, 1) := by decide +kernel
theorem dX8_at_0 : decode cX8_at 0 = .ok (.aload_n 0, 1) := by decide +kernel
theorem dX8_at_1 : decode cX8_at 1 = .ok (.iload_n 1, 1) := by decide +kernel
theorem dX8_at_2 : decode cX8_at 2 = .ok (.iload_n 2, 1) := by decide +kernel
theorem dX8_at_3 : decode cX8_at 3 = .ok (.invokevirtual 54, 3) := by decide +kernel
theorem dX8_at_6 : decode cX8_at 6 = .ok (.astore 4, 2) := by decide +kernel
theorem dX8_at_8 : decode cX8_at 8 = .ok (.aload 4, 2) := by decide +kernel
theorem dX8_at_10 : decode cX8_at 10 = .ok (.ifnonnull 7, 3) := by decide +kernel
theorem dX8_at_13 : decode cX8_at 13 = .ok (.iconst (-1), 1) := by decide +kernel
theorem dX8_at_14 : decode cX8_at 14 = .ok (.goto 9, 3) := by decide +kernel
theorem dX8_at_17 : decode cX8_at 17 = .ok (.aload 4, 2) := by decide +kernel
theorem dX8_at_19 : decode cX8_at 19 = .ok (.iload_n 3, 1) := by decide +kernel
theorem dX8_at_20 : decode cX8_at 20 = .ok (.invokevirtual 68, 3) := by decide +kernel
theorem dX8_at_23 : decode cX8_at 23 = .ok (.ireturn, 1) := by decide +kernel
theorem dX8_size_0 : decode cX8_size 0 = .ok (.iload_n 1, 1) := by decide +kernel
theorem dX8_size_1 : decode cX8_size 1 = .ok (.invokestatic 35, 3) := by decide +kernel
theorem dX8_size_4 : decode cX8_size 4 = .ok (.ifCond .eq 10, 3) := by decide +kernel
theorem dX8_size_7 : decode cX8_size 7 = .ok (.iload_n 2, 1) := by decide +kernel
theorem dX8_size_8 : decode cX8_size 8 = .ok (.invokestatic 39, 3) := by decide +kernel
theorem dX8_size_11 : decode cX8_size 11 = .ok (.ifCond .ne 5, 3) := by decide +kernel
theorem dX8_size_14 : decode cX8_size 14 = .ok (.iconst (-1), 1) := by decide +kernel
theorem dX8_size_15 : decode cX8_size 15 = .ok (.ireturn, 1) := by decide +kernel
theorem dX8_size_16 : decode cX8_size 16 = .ok (.aload_n 0, 1) := by decide +kernel
theorem dX8_size_17 : decode cX8_size 17 = .ok (.iload_n 1, 1) := by decide +kernel
theorem dX8_size_18 : decode cX8_size 18 = .ok (.invokevirtual 42, 3) := by decide +kernel
theorem dX8_size_21 : decode cX8_size 21 = .ok (.iload_n 2, 1) := by decide +kernel
theorem dX8_size_22 : decode cX8_size 22 = .ok (.invokevirtual 84, 3) := by decide +kernel
theorem dX8_size_25 : decode cX8_size 25 = .ok (.astore_n 3, 1) := by decide +kernel
theorem dX8_size_26 : decode cX8_size 26 = .ok (.aload_n 3, 1) := by decide +kernel
theorem dX8_size_27 : decode cX8_size 27 = .ok (.ifnonnull 8, 3) := by decide +kernel
theorem dX8_size_30 : decode cX8_size 30 = .ok (.bipush (-2), 2) := by decide +kernel
theorem dX8_size_32 : decode cX8_size 32 = .ok (.goto 7, 3) := by decide +kernel
theorem dX8_size_35 : decode cX8_size 35 = .ok (.aload_n 3, 1) := by decide +kernel
theorem dX8_size_36 : decode cX8_size 36 = .ok (.invokevirtual 64, 3) := by decide +kernel
theorem dX8_size_39 : decode cX8_size 39 = .ok (.ireturn, 1) := by decide +kernel
theorem dX8_node_0 : decode cX8_node 0 = .ok (.iload_n 1, 1) := by decide +kernel
theorem dX8_node_1 : decode cX8_node 1 = .ok (.invokestatic 35, 3) := by decide +kernel
theorem dX8_node_4 : decode cX8_node 4 = .ok (.ifCond .eq 15, 3) := by decide +kernel
theorem dX8_node_7 : decode cX8_node 7 = .ok (.aload_n 0, 1) := by decide +kernel
theorem dX8_node_8 : decode cX8_node 8 = .ok (.iload_n 1, 1) := by decide +kernel
theorem dX8_node_9 : decode cX8_node 9 = .ok (.invokevirtual 42, 3) := by decide +kernel
theorem dX8_node_12 : decode cX8_node 12 = .ok (.iload_n 2, 1) := by decide +kernel
theorem dX8_node_13 : decode cX8_node 13 = .ok (.invokevirtual 91, 3) := by decide +kernel
theorem dX8_node_16 : decode cX8_node 16 = .ok (.goto 4, 3) := by decide +kernel
theorem dX8_node_19 : decode cX8_node 19 = .ok (.lconst 0, 1) := by decide +kernel
theorem dX8_node_20 : decode cX8_node 20 = .ok (.lreturn, 1) := by decide +kernel
theorem dX8_begin_0 : decode cX8_begin 0 = .ok (.iload_n 1, 1) := by decide +kernel
theorem dX8_begin_1 : decode cX8_begin 1 = .ok (.invokestatic 35, 3) := by decide +kernel
theorem dX8_begin_4 : decode cX8_begin 4 = .ok (.ifCond .eq 14, 3) := by decide +kernel
theorem dX8_begin_7 : decode cX8_begin 7 = .ok (.iload_n 2, 1) := by decide +kernel
theorem dX8_begin_8 : decode cX8_begin 8 = .ok (.iconst 1, 1) := by decide +kernel
theorem dX8_begin_9 : decode cX8_begin 9 = .ok (.if_icmp .lt 9, 3) := by decide +kernel
theorem dX8_begin_12 : decode cX8_begin 12 = .ok (.iload_n 2, 1) := by decide +kernel
theorem dX8_begin_13 : decode cX8_begin 13 = .ok (.bipush 64, 2) := by decide +kernel
theorem dX8_begin_15 : decode cX8_begin 15 = .ok (.if_icmp .le 5, 3) := by decide +kernel
theorem dX8_begin_18 : decode cX8_begin 18 = .ok (.iconst (-1), 1) := by decide +kernel
theorem dX8_begin_19 : decode cX8_begin 19 = .ok (.ireturn, 1) := by decide +kernel
theorem dX8_begin_20 : decode cX8_begin 20 = .ok (.iload_n 3, 1) := by decide +kernel
theorem dX8_begin_21 : decode cX8_begin 21 = .ok (.iconst 1, 1) := by decide +kernel
theorem dX8_begin_22 : decode cX8_begin 22 = .ok (.if_icmp .lt 20, 3) := by decide +kernel
theorem dX8_begin_25 : decode cX8_begin 25 = .ok (.iload_n 3, 1) := by decide +kernel
theorem dX8_begin_26 : decode cX8_begin 26 = .ok (.bipush 8, 2) := by decide +kernel
theorem dX8_begin_28 : decode cX8_begin 28 = .ok (.if_icmp .gt 14, 3) := by decide +kernel
theorem dX8_begin_31 : decode cX8_begin 31 = .ok (.iload 4, 2) := by decide +kernel
theorem dX8_begin_33 : decode cX8_begin 33 = .ok (.ifCond .lt 9, 3) := by decide +kernel
theorem dX8_begin_36 : decode cX8_begin 36 = .ok (.iload 4, 2) := by decide +kernel
theorem dX8_begin_38 : decode cX8_begin 38 = .ok (.iconst 2, 1) := by decide +kernel
theorem dX8_begin_39 : decode cX8_begin 39 = .ok (.if_icmp .le 5, 3) := by decide +kernel
theorem dX8_begin_42 : decode cX8_begin 42 = .ok (.iconst (-1), 1) := by decide +kernel
theorem dX8_begin_43 : decode cX8_begin 43 = .ok (.ireturn, 1) := by decide +kernel
theorem dX8_begin_44 : decode cX8_begin 44 = .ok (.aload_n 0, 1) := by decide +kernel
theorem dX8_begin_45 : decode cX8_begin 45 = .ok (.getfield 31, 3) := by decide +kernel
theorem dX8_begin_48 : decode cX8_begin 48 = .ok (.invokevirtual 95, 3) := by decide +kernel
theorem dX8_begin_51 : decode cX8_begin 51 = .ok (.ifCond .eq 6, 3) := by decide +kernel
theorem dX8_begin_54 : decode cX8_begin 54 = .ok (.bipush (-2), 2) := by decide +kernel
theorem dX8_begin_56 : decode cX8_begin 56 = .ok (.ireturn, 1) := by decide +kernel
theorem dX8_begin_57 : decode cX8_begin 57 = .ok (.aload_n 0, 1) := by decide +kernel
theorem dX8_begin_58 : decode cX8_begin 58 = .ok (.getfield 31, 3) := by decide +kernel
theorem dX8_begin_61 : decode cX8_begin 61 = .ok (.iload_n 1, 1) := by decide +kernel
theorem dX8_begin_62 : decode cX8_begin 62 = .ok (.iload_n 2, 1) := by decide +kernel
theorem dX8_begin_63 : decode cX8_begin 63 = .ok (.iload_n 3, 1) := by decide +kernel
theorem dX8_begin_64 : decode cX8_begin 64 = .ok (.iload 4, 2) := by decide +kernel
theorem dX8_begin_66 : decode cX8_begin 66 = .ok (.invokevirtual 99, 3) := by decide +kernel
theorem dX8_begin_69 : decode cX8_begin 69 = .ok (.iconst 1, 1) := by decide +kernel
theorem dX8_begin_70 : decode cX8_begin 70 = .ok (.ireturn, 1) := by decide +kernel
theorem dX8_step_0 : decode cX8_step 0 = .ok (.iload_n 1, 1) := by decide +kernel
theorem dX8_step_1 : decode cX8_step 1 = .ok (.iconst 1, 1) := by decide +kernel
theorem dX8_step_2 : decode cX8_step 2 = .ok (.if_icmp .lt 10, 3) := by decide +kernel
theorem dX8_step_5 : decode cX8_step 5 = .ok (.iload_n 1, 1) := by decide +kernel
theorem dX8_step_6 : decode cX8_step 6 = .ok (.sipush 200, 3) := by decide +kernel
theorem dX8_step_9 : decode cX8_step 9 = .ok (.if_icmp .le 5, 3) := by decide +kernel
theorem dX8_step_12 : decode cX8_step 12 = .ok (.iconst (-1), 1) := by decide +kernel
theorem dX8_step_13 : decode cX8_step 13 = .ok (.ireturn, 1) := by decide +kernel
theorem dX8_step_14 : decode cX8_step 14 = .ok (.aload_n 0, 1) := by decide +kernel
theorem dX8_step_15 : decode cX8_step 15 = .ok (.getfield 31, 3) := by decide +kernel
theorem dX8_step_18 : decode cX8_step 18 = .ok (.invokevirtual 95, 3) := by decide +kernel
theorem dX8_step_21 : decode cX8_step 21 = .ok (.ifCond .ne 6, 3) := by decide +kernel
theorem dX8_step_24 : decode cX8_step 24 = .ok (.bipush (-2), 2) := by decide +kernel
theorem dX8_step_26 : decode cX8_step 26 = .ok (.ireturn, 1) := by decide +kernel
theorem dX8_step_27 : decode cX8_step 27 = .ok (.iconst 0, 1) := by decide +kernel
theorem dX8_step_28 : decode cX8_step 28 = .ok (.istore_n 2, 1) := by decide +kernel
theorem dX8_step_29 : decode cX8_step 29 = .ok (.iload_n 2, 1) := by decide +kernel
theorem dX8_step_30 : decode cX8_step 30 = .ok (.iload_n 1, 1) := by decide +kernel
theorem dX8_step_31 : decode cX8_step 31 = .ok (.if_icmp .ge 26, 3) := by decide +kernel
theorem dX8_step_34 : decode cX8_step 34 = .ok (.aload_n 0, 1) := by decide +kernel
theorem dX8_step_35 : decode cX8_step 35 = .ok (.getfield 31, 3) := by decide +kernel
theorem dX8_step_38 : decode cX8_step 38 = .ok (.invokevirtual 95, 3) := by decide +kernel
theorem dX8_step_41 : decode cX8_step 41 = .ok (.ifCond .eq 16, 3) := by decide +kernel
theorem dX8_step_44 : decode cX8_step 44 = .ok (.aload_n 0, 1) := by decide +kernel
theorem dX8_step_45 : decode cX8_step 45 = .ok (.getfield 31, 3) := by decide +kernel
theorem dX8_step_48 : decode cX8_step 48 = .ok (.invokevirtual 103, 3) := by decide +kernel
theorem dX8_step_51 : decode cX8_step 51 = .ok (.iinc 2 1, 3) := by decide +kernel
theorem dX8_step_54 : decode cX8_step 54 = .ok (.goto (-25), 3) := by decide +kernel
theorem dX8_step_57 : decode cX8_step 57 = .ok (.iload_n 2, 1) := by decide +kernel
theorem dX8_step_58 : decode cX8_step 58 = .ok (.ireturn, 1) := by decide +kernel
theorem dX8_lose_0 : decode cX8_lose 0 = .ok (.iload_n 1, 1) := by decide +kernel
theorem dX8_lose_1 : decode cX8_lose 1 = .ok (.iconst 1, 1) := by decide +kernel
theorem dX8_lose_2 : decode cX8_lose 2 = .ok (.if_icmp .lt 9, 3) := by decide +kernel
theorem dX8_lose_5 : decode cX8_lose 5 = .ok (.iload_n 1, 1) := by decide +kernel
theorem dX8_lose_6 : decode cX8_lose 6 = .ok (.bipush 50, 2) := by decide +kernel
theorem dX8_lose_8 : decode cX8_lose 8 = .ok (.if_icmp .le 7, 3) := by decide +kernel
theorem dX8_lose_11 : decode cX8_lose 11 = .ok (.iconst (-1), 1) := by decide +kernel
theorem dX8_lose_12 : decode cX8_lose 12 = .ok (.goto 11, 3) := by decide +kernel
theorem dX8_lose_15 : decode cX8_lose 15 = .ok (.aload_n 0, 1) := by decide +kernel
theorem dX8_lose_16 : decode cX8_lose 16 = .ok (.getfield 22, 3) := by decide +kernel
theorem dX8_lose_19 : decode cX8_lose 19 = .ok (.iload_n 1, 1) := by decide +kernel
theorem dX8_lose_20 : decode cX8_lose 20 = .ok (.invokevirtual 106, 3) := by decide +kernel
theorem dX8_lose_23 : decode cX8_lose 23 = .ok (.ireturn, 1) := by decide +kernel
theorem dX8_cut_0 : decode cX8_cut 0 = .ok (.aload_n 0, 1) := by decide +kernel
theorem dX8_cut_1 : decode cX8_cut 1 = .ok (.getfield 31, 3) := by decide +kernel
theorem dX8_cut_4 : decode cX8_cut 4 = .ok (.invokevirtual 95, 3) := by decide +kernel
theorem dX8_cut_7 : decode cX8_cut 7 = .ok (.ifCond .eq 13, 3) := by decide +kernel
theorem dX8_cut_10 : decode cX8_cut 10 = .ok (.aload_n 0, 1) := by decide +kernel
theorem dX8_cut_11 : decode cX8_cut 11 = .ok (.getfield 31, 3) := by decide +kernel
theorem dX8_cut_14 : decode cX8_cut 14 = .ok (.invokevirtual 109, 3) := by decide +kernel
theorem dX8_cut_17 : decode cX8_cut 17 = .ok (.goto 5, 3) := by decide +kernel
theorem dX8_cut_20 : decode cX8_cut 20 = .ok (.bipush (-2), 2) := by decide +kernel
theorem dX8_cut_22 : decode cX8_cut 22 = .ok (.ireturn, 1) := by decide +kernel
theorem dX8_state_0 : decode cX8_state 0 = .ok (.aload_n 0, 1) := by decide +kernel
theorem dX8_state_1 : decode cX8_state 1 = .ok (.getfield 31, 3) := by decide +kernel
theorem dX8_state_4 : decode cX8_state 4 = .ok (.iload_n 1, 1) := by decide +kernel
theorem dX8_state_5 : decode cX8_state 5 = .ok (.invokevirtual 112, 3) := by decide +kernel
theorem dX8_state_8 : decode cX8_state 8 = .ok (.ireturn, 1) := by decide +kernel
theorem dX8_sent_0 : decode cX8_sent 0 = .ok (.iload_n 1, 1) := by decide +kernel
theorem dX8_sent_1 : decode cX8_sent 1 = .ok (.invokestatic 35, 3) := by decide +kernel
theorem dX8_sent_4 : decode cX8_sent 4 = .ok (.ifCond .eq 14, 3) := by decide +kernel
theorem dX8_sent_7 : decode cX8_sent 7 = .ok (.aload_n 0, 1) := by decide +kernel
theorem dX8_sent_8 : decode cX8_sent 8 = .ok (.getfield 22, 3) := by decide +kernel
theorem dX8_sent_11 : decode cX8_sent 11 = .ok (.iload_n 1, 1) := by decide +kernel
theorem dX8_sent_12 : decode cX8_sent 12 = .ok (.invokevirtual 115, 3) := by decide +kernel
theorem dX8_sent_15 : decode cX8_sent 15 = .ok (.goto 6, 3) := by decide +kernel
theorem dX8_sent_18 : decode cX8_sent 18 = .ok (.ldc2_w 118, 3) := by decide +kernel
theorem dX8_sent_21 : decode cX8_sent 21 = .ok (.lreturn, 1) := by decide +kernel
theorem dX8_built_0 : decode cX8_built 0 = .ok (.aload_n 0, 1) := by decide +kernel
theorem dX8_built_1 : decode cX8_built 1 = .ok (.getfield 31, 3) := by decide +kernel
theorem dX8_built_4 : decode cX8_built 4 = .ok (.iload_n 1, 1) := by decide +kernel
theorem dX8_built_5 : decode cX8_built 5 = .ok (.invokevirtual 120, 3) := by decide +kernel
theorem dX8_built_8 : decode cX8_built 8 = .ok (.ireturn, 1) := by decide +kernel
theorem dX8_sums_0 : decode cX8_sums 0 = .ok (.aload_n 0, 1) := by decide +kernel
theorem dX8_sums_1 : decode cX8_sums 1 = .ok (.getfield 31, 3) := by decide +kernel
theorem dX8_sums_4 : decode cX8_sums 4 = .ok (.iload_n 1, 1) := by decide +kernel
theorem dX8_sums_5 : decode cX8_sums 5 = .ok (.iload_n 2, 1) := by decide +kernel
theorem dX8_sums_6 : decode cX8_sums 6 = .ok (.invokevirtual 123, 3) := by decide +kernel
theorem dX8_sums_9 : decode cX8_sums 9 = .ok (.lreturn, 1) := by decide +kernel
theorem dX8_weak_0 : decode cX8_weak 0 = .ok (.aload_n 0, 1) := by decide +kernel
theorem dX8_weak_1 : decode cX8_weak 1 = .ok (.iload_n 1, 1) := by decide +kernel
theorem dX8_weak_2 : decode cX8_weak 2 = .ok (.iload_n 2, 1) := by decide +kernel
theorem dX8_weak_3 : decode cX8_weak 3 = .ok (.invokevirtual 54, 3) := by decide +kernel
theorem dX8_weak_6 : decode cX8_weak 6 = .ok (.astore 5, 2) := by decide +kernel
theorem dX8_weak_8 : decode cX8_weak 8 = .ok (.aload 5, 2) := by decide +kernel
theorem dX8_weak_10 : decode cX8_weak 10 = .ok (.ifnull 27, 3) := by decide +kernel
theorem dX8_weak_13 : decode cX8_weak 13 = .ok (.iload 4, 2) := by decide +kernel
theorem dX8_weak_15 : decode cX8_weak 15 = .ok (.iconst 1, 1) := by decide +kernel
theorem dX8_weak_16 : decode cX8_weak 16 = .ok (.if_icmp .lt 21, 3) := by decide +kernel
theorem dX8_weak_19 : decode cX8_weak 19 = .ok (.iload 4, 2) := by decide +kernel
theorem dX8_weak_21 : decode cX8_weak 21 = .ok (.bipush 64, 2) := by decide +kernel
theorem dX8_weak_23 : decode cX8_weak 23 = .ok (.if_icmp .gt 14, 3) := by decide +kernel
theorem dX8_weak_26 : decode cX8_weak 26 = .ok (.aload 5, 2) := by decide +kernel
theorem dX8_weak_28 : decode cX8_weak 28 = .ok (.iload_n 3, 1) := by decide +kernel
theorem dX8_weak_29 : decode cX8_weak 29 = .ok (.iload 4, 2) := by decide +kernel
theorem dX8_weak_31 : decode cX8_weak 31 = .ok (.invokevirtual 58, 3) := by decide +kernel
theorem dX8_weak_34 : decode cX8_weak 34 = .ok (.ifCond .ne 7, 3) := by decide +kernel
theorem dX8_weak_37 : decode cX8_weak 37 = .ok (.ldc2_w 118, 3) := by decide +kernel
theorem dX8_weak_40 : decode cX8_weak 40 = .ok (.lreturn, 1) := by decide +kernel
theorem dX8_weak_41 : decode cX8_weak 41 = .ok (.aload 5, 2) := by decide +kernel
theorem dX8_weak_43 : decode cX8_weak 43 = .ok (.iload_n 3, 1) := by decide +kernel
theorem dX8_weak_44 : decode cX8_weak 44 = .ok (.iload 4, 2) := by decide +kernel
theorem dX8_weak_46 : decode cX8_weak 46 = .ok (.invokevirtual 127, 3) := by decide +kernel
theorem dX8_weak_49 : decode cX8_weak 49 = .ok (.lreturn, 1) := by decide +kernel
theorem dX8_isEnd_0 : decode cX8_isEnd 0 = .ok (.iload_n 0, 1) := by decide +kernel
theorem dX8_isEnd_1 : decode cX8_isEnd 1 = .ok (.ifCond .eq 8, 3) := by decide +kernel
theorem dX8_isEnd_4 : decode cX8_isEnd 4 = .ok (.iload_n 0, 1) := by decide +kernel
theorem dX8_isEnd_5 : decode cX8_isEnd 5 = .ok (.iconst 1, 1) := by decide +kernel
theorem dX8_isEnd_6 : decode cX8_isEnd 6 = .ok (.if_icmp .ne 7, 3) := by decide +kernel
theorem dX8_isEnd_9 : decode cX8_isEnd 9 = .ok (.iconst 1, 1) := by decide +kernel
theorem dX8_isEnd_10 : decode cX8_isEnd 10 = .ok (.goto 4, 3) := by decide +kernel
theorem dX8_isEnd_13 : decode cX8_isEnd 13 = .ok (.iconst 0, 1) := by decide +kernel
theorem dX8_isEnd_14 : decode cX8_isEnd 14 = .ok (.ireturn, 1) := by decide +kernel
theorem dX8_isFile_0 : decode cX8_isFile 0 = .ok (.iload_n 0, 1) := by decide +kernel
theorem dX8_isFile_1 : decode cX8_isFile 1 = .ok (.ifCond .lt 13, 3) := by decide +kernel
theorem dX8_isFile_4 : decode cX8_isFile 4 = .ok (.iload_n 0, 1) := by decide +kernel
theorem dX8_isFile_5 : decode cX8_isFile 5 = .ok (.bipush 8, 2) := by decide +kernel
theorem dX8_isFile_7 : decode cX8_isFile 7 = .ok (.if_icmp .ge 7, 3) := by decide +kernel
theorem dX8_isFile_10 : decode cX8_isFile 10 = .ok (.iconst 1, 1) := by decide +kernel
theorem dX8_isFile_11 : decode cX8_isFile 11 = .ok (.goto 4, 3) := by decide +kernel
theorem dX8_isFile_14 : decode cX8_isFile 14 = .ok (.iconst 0, 1) := by decide +kernel
theorem dX8_isFile_15 : decode cX8_isFile 15 = .ok (.ireturn, 1) := by decide +kernel
theorem dX8_strong_0 : decode cX8_strong 0 = .ok (.iload_n 2, 1) := by decide +kernel
theorem dX8_strong_1 : decode cX8_strong 1 = .ok (.bipush 8, 2) := by decide +kernel
theorem dX8_strong_3 : decode cX8_strong 3 = .ok (.if_icmp .lt 7, 3) := by decide +kernel
theorem dX8_strong_6 : decode cX8_strong 6 = .ok (.lload_n 0, 1) := by decide +kernel
theorem dX8_strong_7 : decode cX8_strong 7 = .ok (.goto 13, 3) := by decide +kernel
theorem dX8_strong_10 : decode cX8_strong 10 = .ok (.lload_n 0, 1) := by decide +kernel
theorem dX8_strong_11 : decode cX8_strong 11 = .ok (.lconst 1, 1) := by decide +kernel
theorem dX8_strong_12 : decode cX8_strong 12 = .ok (.bipush 8, 2) := by decide +kernel
theorem dX8_strong_14 : decode cX8_strong 14 = .ok (.iload_n 2, 1) := by decide +kernel
theorem dX8_strong_15 : decode cX8_strong 15 = .ok (.imul, 1) := by decide +kernel
theorem dX8_strong_16 : decode cX8_strong 16 = .ok (.lshl, 1) := by decide +kernel
theorem dX8_strong_17 : decode cX8_strong 17 = .ok (.lconst 1, 1) := by decide +kernel
theorem dX8_strong_18 : decode cX8_strong 18 = .ok (.lsub, 1) := by decide +kernel
theorem dX8_strong_19 : decode cX8_strong 19 = .ok (.land, 1) := by decide +kernel
theorem dX8_strong_20 : decode cX8_strong 20 = .ok (.lreturn, 1) := by decide +kernel
theorem dX8_side_0 : decode cX8_side 0 = .ok (.iload_n 1, 1) := by decide +kernel
theorem dX8_side_1 : decode cX8_side 1 = .ok (.ifCond .ne 10, 3) := by decide +kernel
theorem dX8_side_4 : decode cX8_side 4 = .ok (.aload_n 0, 1) := by decide +kernel
theorem dX8_side_5 : decode cX8_side 5 = .ok (.getfield 12, 3) := by decide +kernel
theorem dX8_side_8 : decode cX8_side 8 = .ok (.goto 7, 3) := by decide +kernel
theorem dX8_side_11 : decode cX8_side 11 = .ok (.aload_n 0, 1) := by decide +kernel
theorem dX8_side_12 : decode cX8_side 12 = .ok (.getfield 16, 3) := by decide +kernel
theorem dX8_side_15 : decode cX8_side 15 = .ok (.areturn, 1) := by decide +kernel
theorem dX8_existing_0 : decode cX8_existing 0 = .ok (.iload_n 1, 1) := by decide +kernel
theorem dX8_existing_1 : decode cX8_existing 1 = .ok (.invokestatic 35, 3) := by decide +kernel
theorem dX8_existing_4 : decode cX8_existing 4 = .ok (.ifCond .eq 15, 3) := by decide +kernel
theorem dX8_existing_7 : decode cX8_existing 7 = .ok (.aload_n 0, 1) := by decide +kernel
theorem dX8_existing_8 : decode cX8_existing 8 = .ok (.iload_n 1, 1) := by decide +kernel
theorem dX8_existing_9 : decode cX8_existing 9 = .ok (.invokevirtual 42, 3) := by decide +kernel
theorem dX8_existing_12 : decode cX8_existing 12 = .ok (.iload_n 2, 1) := by decide +kernel
theorem dX8_existing_13 : decode cX8_existing 13 = .ok (.invokevirtual 84, 3) := by decide +kernel
theorem dX8_existing_16 : decode cX8_existing 16 = .ok (.goto 4, 3) := by decide +kernel
theorem dX8_existing_19 : decode cX8_existing 19 = .ok (.aconst_null, 1) := by decide +kernel
theorem dX8_existing_20 : decode cX8_existing 20 = .ok (.areturn, 1) := by decide +kernel
theorem dX9_init_0 : decode cX9_init 0 = .ok (.aload_n 0, 1) := by decide +kernel
theorem dX9_init_1 : decode cX9_init 1 = .ok (.invokespecial 1, 3) := by decide +kernel
theorem dX9_init_4 : decode cX9_init 4 = .ok (.aload_n 0, 1) := by decide +kernel
theorem dX9_init_5 : decode cX9_init 5 = .ok (.sipush 8000, 3) := by decide +kernel
theorem dX9_init_8 : decode cX9_init 8 = .ok (.newarray .byte, 2) := by decide +kernel
theorem dX9_init_10 : decode cX9_init 10 = .ok (.putfield 7, 3) := by decide +kernel
theorem dX9_init_13 : decode cX9_init 13 = .ok (.aload_n 0, 1) := by decide +kernel
theorem dX9_init_14 : decode cX9_init 14 = .ok (.bipush 16, 2) := by decide +kernel
theorem dX9_init_16 : decode cX9_init 16 = .ok (.newarray .int, 2) := by decide +kernel
theorem dX9_init_18 : decode cX9_init 18 = .ok (.putfield 13, 3) := by decide +kernel
theorem dX9_init_21 : decode cX9_init 21 = .ok (.aload_n 0, 1) := by decide +kernel
theorem dX9_init_22 : decode cX9_init 22 = .ok (.bipush 16, 2) := by decide +kernel
theorem dX9_init_24 : decode cX9_init 24 = .ok (.newarray .byte, 2) := by decide +kernel
theorem dX9_init_26 : decode cX9_init 26 = .ok (.putfield 17, 3) := by decide +kernel
theorem dX9_init_29 : decode cX9_init 29 = .ok (.aload_n 0, 1) := by decide +kernel
theorem dX9_init_30 : decode cX9_init 30 = .ok (.bipush 16, 2) := by decide +kernel
theorem dX9_init_32 : decode cX9_init 32 = .ok (.newarray .long, 2) := by decide +kernel
theorem dX9_init_34 : decode cX9_init 34 = .ok (.putfield 20, 3) := by decide +kernel
theorem dX9_init_37 : decode cX9_init 37 = .ok (.aload_n 0, 1) := by decide +kernel
theorem dX9_init_38 : decode cX9_init 38 = .ok (.bipush 16, 2) := by decide +kernel
theorem dX9_init_40 : decode cX9_init 40 = .ok (.newarray .int, 2) := by decide +kernel
theorem dX9_init_42 : decode cX9_init 42 = .ok (.putfield 24, 3) := by decide +kernel
theorem dX9_init_45 : decode cX9_init 45 = .ok (.aload_n 0, 1) := by decide +kernel
theorem dX9_init_46 : decode cX9_init 46 = .ok (.iconst 2, 1) := by decide +kernel
theorem dX9_init_47 : decode cX9_init 47 = .ok (.newarray .long, 2) := by decide +kernel
theorem dX9_init_49 : decode cX9_init 49 = .ok (.putfield 27, 3) := by decide +kernel
theorem dX9_init_52 : decode cX9_init 52 = .ok (.aload_n 0, 1) := by decide +kernel
theorem dX9_init_53 : decode cX9_init 53 = .ok (.bipush 16, 2) := by decide +kernel
theorem dX9_init_55 : decode cX9_init 55 = .ok (.newarray .int, 2) := by decide +kernel
theorem dX9_init_57 : decode cX9_init 57 = .ok (.putfield 30, 3) := by decide +kernel
theorem dX9_init_60 : decode cX9_init 60 = .ok (.aload_n 0, 1) := by decide +kernel
theorem dX9_init_61 : decode cX9_init 61 = .ok (.bipush 8, 2) := by decide +kernel
theorem dX9_init_63 : decode cX9_init 63 = .ok (.newarray .boolean, 2) := by decide +kernel
theorem dX9_init_65 : decode cX9_init 65 = .ok (.putfield 33, 3) := by decide +kernel
theorem dX9_init_68 : decode cX9_init 68 = .ok (.aload_n 0, 1) := by decide +kernel
theorem dX9_init_69 : decode cX9_init 69 = .ok (.bipush 8, 2) := by decide +kernel
theorem dX9_init_71 : decode cX9_init 71 = .ok (.newarray .boolean, 2) := by decide +kernel
theorem dX9_init_73 : decode cX9_init 73 = .ok (.putfield 37, 3) := by decide +kernel
theorem dX9_init_76 : decode cX9_init 76 = .ok (.aload_n 0, 1) := by decide +kernel
theorem dX9_init_77 : decode cX9_init 77 = .ok (.sipush 500, 3) := by decide +kernel
theorem dX9_init_80 : decode cX9_init 80 = .ok (.newarray .byte, 2) := by decide +kernel
theorem dX9_init_82 : decode cX9_init 82 = .ok (.putfield 40, 3) := by decide +kernel
theorem dX9_init_85 : decode cX9_init 85 = .ok (.aload_n 0, 1) := by decide +kernel
theorem dX9_init_86 : decode cX9_init 86 = .ok (.bipush 16, 2) := by decide +kernel
theorem dX9_init_88 : decode cX9_init 88 = .ok (.newarray .byte, 2) := by decide +kernel
theorem dX9_init_90 : decode cX9_init 90 = .ok (.putfield 43, 3) := by decide +kernel
theorem dX9_init_93 : decode cX9_init 93 = .ok (.aload_n 0, 1) := by decide +kernel
theorem dX9_init_94 : decode cX9_init 94 = .ok (.sipush 500, 3) := by decide +kernel
theorem dX9_init_97 : decode cX9_init 97 = .ok (.newarray .long, 2) := by decide +kernel
theorem dX9_init_99 : decode cX9_init 99 = .ok (.putfield 46, 3) := by decide +kernel
theorem dX9_init_102 : decode cX9_init 102 = .ok (.aload_n 0, 1) := by decide +kernel
theorem dX9_init_103 : decode cX9_init 103 = .ok (.sipush 500, 3) := by decide +kernel
theorem dX9_init_106 : decode cX9_init 106 = .ok (.newarray .long, 2) := by decide +kernel
theorem dX9_init_108 : decode cX9_init 108 = .ok (.putfield 49, 3) := by decide +kernel
theorem dX9_init_111 : decode cX9_init 111 = .ok (.aload_n 0, 1) := by decide +kernel
theorem dX9_init_112 : decode cX9_init 112 = .ok (.sipush 500, 3) := by decide +kernel
theorem dX9_init_115 : decode cX9_init 115 = .ok (.newarray .long, 2) := by decide +kernel
theorem dX9_init_117 : decode cX9_init 117 = .ok (.putfield 52, 3) := by decide +kernel
theorem dX9_init_120 : decode cX9_init 120 = .ok (.aload_n 0, 1) := by decide +kernel
theorem dX9_init_121 : decode cX9_init 121 = .ok (.sipush 500, 3) := by decide +kernel
theorem dX9_init_124 : decode cX9_init 124 = .ok (.newarray .long, 2) := by decide +kernel
theorem dX9_init_126 : decode cX9_init 126 = .ok (.putfield 55, 3) := by decide +kernel
theorem dX9_init_129 : decode cX9_init 129 = .ok (.aload_n 0, 1) := by decide +kernel
theorem dX9_init_130 : decode cX9_init 130 = .ok (.bipush 8, 2) := by decide +kernel
theorem dX9_init_132 : decode cX9_init 132 = .ok (.newarray .int, 2) := by decide +kernel
theorem dX9_init_134 : decode cX9_init 134 = .ok (.putfield 58, 3) := by decide +kernel
theorem dX9_init_137 : decode cX9_init 137 = .ok (.iconst 0, 1) := by decide +kernel
theorem dX9_init_138 : decode cX9_init 138 = .ok (.istore_n 1, 1) := by decide +kernel
theorem dX9_init_139 : decode cX9_init 139 = .ok (.iload_n 1, 1) := by decide +kernel
theorem dX9_init_140 : decode cX9_init 140 = .ok (.bipush 16, 2) := by decide +kernel
theorem dX9_init_142 : decode cX9_init 142 = .ok (.if_icmp .ge 17, 3) := by decide +kernel
theorem dX9_init_145 : decode cX9_init 145 = .ok (.aload_n 0, 1) := by decide +kernel
theorem dX9_init_146 : decode cX9_init 146 = .ok (.getfield 13, 3) := by decide +kernel
theorem dX9_init_149 : decode cX9_init 149 = .ok (.iload_n 1, 1) := by decide +kernel
theorem dX9_init_150 : decode cX9_init 150 = .ok (.bipush (-2), 2) := by decide +kernel
theorem dX9_init_152 : decode cX9_init 152 = .ok (.iastore, 1) := by decide +kernel
theorem dX9_init_153 : decode cX9_init 153 = .ok (.iinc 1 1, 3) := by decide +kernel
theorem dX9_init_156 : decode cX9_init 156 = .ok (.goto (-17), 3) := by decide +kernel
theorem dX9_init_159 : decode cX9_init 159 = .ok (.return_, 1) := by decide +kernel
theorem dX9_greater_0 : decode cX9_greater 0 = .ok (.iload_n 0, 1) := by decide +kernel
theorem dX9_greater_1 : decode cX9_greater 1 = .ok (.iload_n 1, 1) := by decide +kernel
theorem dX9_greater_2 : decode cX9_greater 2 = .ok (.if_icmp .ge 7, 3) := by decide +kernel
theorem dX9_greater_5 : decode cX9_greater 5 = .ok (.iload_n 1, 1) := by decide +kernel
theorem dX9_greater_6 : decode cX9_greater 6 = .ok (.goto 4, 3) := by decide +kernel
theorem dX9_greater_9 : decode cX9_greater 9 = .ok (.iload_n 0, 1) := by decide +kernel
theorem dX9_greater_10 : decode cX9_greater 10 = .ok (.ireturn, 1) := by decide +kernel
theorem dX9_lesser_0 : decode cX9_lesser 0 = .ok (.iload_n 0, 1) := by decide +kernel
theorem dX9_lesser_1 : decode cX9_lesser 1 = .ok (.iload_n 1, 1) := by decide +kernel
theorem dX9_lesser_2 : decode cX9_lesser 2 = .ok (.if_icmp .ge 7, 3) := by decide +kernel
theorem dX9_lesser_5 : decode cX9_lesser 5 = .ok (.iload_n 0, 1) := by decide +kernel
theorem dX9_lesser_6 : decode cX9_lesser 6 = .ok (.goto 4, 3) := by decide +kernel
theorem dX9_lesser_9 : decode cX9_lesser 9 = .ok (.iload_n 1, 1) := by decide +kernel
theorem dX9_lesser_10 : decode cX9_lesser 10 = .ok (.ireturn, 1) := by decide +kernel
theorem dX9_isFile_0 : decode cX9_isFile 0 = .ok (.iload_n 0, 1) := by decide +kernel
theorem dX9_isFile_1 : decode cX9_isFile 1 = .ok (.ifCond .lt 22, 3) := by decide +kernel
theorem dX9_isFile_4 : decode cX9_isFile 4 = .ok (.iload_n 0, 1) := by decide +kernel
theorem dX9_isFile_5 : decode cX9_isFile 5 = .ok (.iconst 1, 1) := by decide +kernel
theorem dX9_isFile_6 : decode cX9_isFile 6 = .ok (.if_icmp .gt 17, 3) := by decide +kernel
theorem dX9_isFile_9 : decode cX9_isFile 9 = .ok (.iload_n 1, 1) := by decide +kernel
theorem dX9_isFile_10 : decode cX9_isFile 10 = .ok (.ifCond .lt 13, 3) := by decide +kernel
theorem dX9_isFile_13 : decode cX9_isFile 13 = .ok (.iload_n 1, 1) := by decide +kernel
theorem dX9_isFile_14 : decode cX9_isFile 14 = .ok (.bipush 7, 2) := by decide +kernel
theorem dX9_isFile_16 : decode cX9_isFile 16 = .ok (.if_icmp .gt 7, 3) := by decide +kernel
theorem dX9_isFile_19 : decode cX9_isFile 19 = .ok (.iconst 1, 1) := by decide +kernel
theorem dX9_isFile_20 : decode cX9_isFile 20 = .ok (.goto 4, 3) := by decide +kernel
theorem dX9_isFile_23 : decode cX9_isFile 23 = .ok (.iconst 0, 1) := by decide +kernel
theorem dX9_isFile_24 : decode cX9_isFile 24 = .ok (.ireturn, 1) := by decide +kernel
theorem dX9_sizeOf_0 : decode cX9_sizeOf 0 = .ok (.iconst 0, 1) := by decide +kernel
theorem dX9_sizeOf_1 : decode cX9_sizeOf 1 = .ok (.aload_n 0, 1) := by decide +kernel
theorem dX9_sizeOf_2 : decode cX9_sizeOf 2 = .ok (.getfield 13, 3) := by decide +kernel
theorem dX9_sizeOf_5 : decode cX9_sizeOf 5 = .ok (.iload_n 1, 1) := by decide +kernel
theorem dX9_sizeOf_6 : decode cX9_sizeOf 6 = .ok (.iaload, 1) := by decide +kernel
theorem dX9_sizeOf_7 : decode cX9_sizeOf 7 = .ok (.invokestatic 61, 3) := by decide +kernel
theorem dX9_sizeOf_10 : decode cX9_sizeOf 10 = .ok (.ireturn, 1) := by decide +kernel
theorem dX9_write_0 : decode cX9_write 0 = .ok (.iload_n 1, 1) := by decide +kernel
theorem dX9_write_1 : decode cX9_write 1 = .ok (.iload_n 2, 1) := by decide +kernel
theorem dX9_write_2 : decode cX9_write 2 = .ok (.invokestatic 65, 3) := by decide +kernel
theorem dX9_write_5 : decode cX9_write 5 = .ok (.ifCond .eq 15, 3) := by decide +kernel
theorem dX9_write_8 : decode cX9_write 8 = .ok (.iload 6, 2) := by decide +kernel
theorem dX9_write_10 : decode cX9_write 10 = .ok (.ifCond .lt 10, 3) := by decide +kernel
theorem dX9_write_13 : decode cX9_write 13 = .ok (.iload 6, 2) := by decide +kernel
theorem dX9_write_15 : decode cX9_write 15 = .ok (.bipush 8, 2) := by decide +kernel
theorem dX9_write_17 : decode cX9_write 17 = .ok (.if_icmp .le 5, 3) := by decide +kernel
theorem dX9_write_20 : decode cX9_write 20 = .ok (.iconst (-1), 1) := by decide +kernel
theorem dX9_write_21 : decode cX9_write 21 = .ok (.ireturn, 1) := by decide +kernel
theorem dX9_write_22 : decode cX9_write 22 = .ok (.bipush 8, 2) := by decide +kernel
theorem dX9_write_24 : decode cX9_write 24 = .ok (.iload_n 1, 1) := by decide +kernel
theorem dX9_write_25 : decode cX9_write 25 = .ok (.imul, 1) := by decide +kernel
theorem dX9_write_26 : decode cX9_write 26 = .ok (.iload_n 2, 1) := by decide +kernel
theorem dX9_write_27 : decode cX9_write 27 = .ok (.iadd, 1) := by decide +kernel
theorem dX9_write_28 : decode cX9_write 28 = .ok (.istore 7, 2) := by decide +kernel
theorem dX9_write_30 : decode cX9_write 30 = .ok (.iload_n 3, 1) := by decide +kernel
theorem dX9_write_31 : decode cX9_write 31 = .ok (.ifCond .lt 13, 3) := by decide +kernel
theorem dX9_write_34 : decode cX9_write 34 = .ok (.iload_n 3, 1) := by decide +kernel
theorem dX9_write_35 : decode cX9_write 35 = .ok (.aload_n 0, 1) := by decide +kernel
theorem dX9_write_36 : decode cX9_write 36 = .ok (.iload 7, 2) := by decide +kernel
theorem dX9_write_38 : decode cX9_write 38 = .ok (.invokevirtual 69, 3) := by decide +kernel
theorem dX9_write_41 : decode cX9_write 41 = .ok (.if_icmp .le 5, 3) := by decide +kernel
theorem dX9_write_44 : decode cX9_write 44 = .ok (.iconst (-1), 1) := by decide +kernel
theorem dX9_write_45 : decode cX9_write 45 = .ok (.ireturn, 1) := by decide +kernel
theorem dX9_write_46 : decode cX9_write 46 = .ok (.iload_n 3, 1) := by decide +kernel
theorem dX9_write_47 : decode cX9_write 47 = .ok (.iload 6, 2) := by decide +kernel
theorem dX9_write_49 : decode cX9_write 49 = .ok (.iadd, 1) := by decide +kernel
theorem dX9_write_50 : decode cX9_write 50 = .ok (.sipush 500, 3) := by decide +kernel
theorem dX9_write_53 : decode cX9_write 53 = .ok (.if_icmp .le 6, 3) := by decide +kernel
theorem dX9_write_56 : decode cX9_write 56 = .ok (.bipush (-3), 2) := by decide +kernel
theorem dX9_write_58 : decode cX9_write 58 = .ok (.ireturn, 1) := by decide +kernel
theorem dX9_write_59 : decode cX9_write 59 = .ok (.iconst 0, 1) := by decide +kernel
theorem dX9_write_60 : decode cX9_write 60 = .ok (.istore 8, 2) := by decide +kernel
theorem dX9_write_62 : decode cX9_write 62 = .ok (.iload 8, 2) := by decide +kernel
theorem dX9_write_64 : decode cX9_write 64 = .ok (.iload 6, 2) := by decide +kernel
theorem dX9_write_66 : decode cX9_write 66 = .ok (.if_icmp .ge 40, 3) := by decide +kernel
theorem dX9_write_69 : decode cX9_write 69 = .ok (.aload_n 0, 1) := by decide +kernel
theorem dX9_write_70 : decode cX9_write 70 = .ok (.getfield 7, 3) := by decide +kernel
theorem dX9_write_73 : decode cX9_write 73 = .ok (.sipush 500, 3) := by decide +kernel
theorem dX9_write_76 : decode cX9_write 76 = .ok (.iload 7, 2) := by decide +kernel
theorem dX9_write_78 : decode cX9_write 78 = .ok (.imul, 1) := by decide +kernel
theorem dX9_write_79 : decode cX9_write 79 = .ok (.iload_n 3, 1) := by decide +kernel
theorem dX9_write_80 : decode cX9_write 80 = .ok (.iadd, 1) := by decide +kernel
theorem dX9_write_81 : decode cX9_write 81 = .ok (.iload 8, 2) := by decide +kernel
theorem dX9_write_83 : decode cX9_write 83 = .ok (.iadd, 1) := by decide +kernel
theorem dX9_write_84 : decode cX9_write 84 = .ok (.lload 4, 2) := by decide +kernel
theorem dX9_write_86 : decode cX9_write 86 = .ok (.bipush 8, 2) := by decide +kernel
theorem dX9_write_88 : decode cX9_write 88 = .ok (.iload 6, 2) := by decide +kernel
theorem dX9_write_90 : decode cX9_write 90 = .ok (.iconst 1, 1) := by decide +kernel
theorem dX9_write_91 : decode cX9_write 91 = .ok (.isub, 1) := by decide +kernel
theorem dX9_write_92 : decode cX9_write 92 = .ok (.iload 8, 2) := by decide +kernel
theorem dX9_write_94 : decode cX9_write 94 = .ok (.isub, 1) := by decide +kernel
theorem dX9_write_95 : decode cX9_write 95 = .ok (.imul, 1) := by decide +kernel
theorem dX9_write_96 : decode cX9_write 96 = .ok (.lshr, 1) := by decide +kernel
theorem dX9_write_97 : decode cX9_write 97 = .ok (.l2i, 1) := by decide +kernel
theorem dX9_write_98 : decode cX9_write 98 = .ok (.i2b, 1) := by decide +kernel
theorem dX9_write_99 : decode cX9_write 99 = .ok (.bastore, 1) := by decide +kernel
theorem dX9_write_100 : decode cX9_write 100 = .ok (.iinc 8 1, 3) := by decide +kernel
theorem dX9_write_103 : decode cX9_write 103 = .ok (.goto (-41), 3) := by decide +kernel
theorem dX9_write_106 : decode cX9_write 106 = .ok (.aload_n 0, 1) := by decide +kernel
theorem dX9_write_107 : decode cX9_write 107 = .ok (.getfield 13, 3) := by decide +kernel
theorem dX9_write_110 : decode cX9_write 110 = .ok (.iload 7, 2) := by decide +kernel
theorem dX9_write_112 : decode cX9_write 112 = .ok (.aload_n 0, 1) := by decide +kernel
theorem dX9_write_113 : decode cX9_write 113 = .ok (.iload 7, 2) := by decide +kernel
theorem dX9_write_115 : decode cX9_write 115 = .ok (.invokevirtual 69, 3) := by decide +kernel
theorem dX9_write_118 : decode cX9_write 118 = .ok (.iload_n 3, 1) := by decide +kernel
theorem dX9_write_119 : decode cX9_write 119 = .ok (.iload 6, 2) := by decide +kernel
theorem dX9_write_121 : decode cX9_write 121 = .ok (.iadd, 1) := by decide +kernel
theorem dX9_write_122 : decode cX9_write 122 = .ok (.invokestatic 61, 3) := by decide +kernel
theorem dX9_write_125 : decode cX9_write 125 = .ok (.iastore, 1) := by decide +kernel
theorem dX9_write_126 : decode cX9_write 126 = .ok (.aload_n 0, 1) := by decide +kernel
theorem dX9_write_127 : decode cX9_write 127 = .ok (.getfield 13, 3) := by decide +kernel
theorem dX9_write_130 : decode cX9_write 130 = .ok (.iload 7, 2) := by decide +kernel
theorem dX9_write_132 : decode cX9_write 132 = .ok (.iaload, 1) := by decide +kernel
theorem dX9_write_133 : decode cX9_write 133 = .ok (.ireturn, 1) := by decide +kernel
theorem dX9_again_0 : decode cX9_again 0 = .ok (.iload_n 1, 1) := by decide +kernel
theorem dX9_again_1 : decode cX9_again 1 = .ok (.iload_n 2, 1) := by decide +kernel
theorem dX9_again_2 : decode cX9_again 2 = .ok (.invokestatic 65, 3) := by decide +kernel
theorem dX9_again_5 : decode cX9_again 5 = .ok (.ifCond .ne 5, 3) := by decide +kernel
theorem dX9_again_8 : decode cX9_again 8 = .ok (.iconst (-1), 1) := by decide +kernel
theorem dX9_again_9 : decode cX9_again 9 = .ok (.ireturn, 1) := by decide +kernel
theorem dX9_again_10 : decode cX9_again 10 = .ok (.bipush 8, 2) := by decide +kernel
theorem dX9_again_12 : decode cX9_again 12 = .ok (.iload_n 1, 1) := by decide +kernel
theorem dX9_again_13 : decode cX9_again 13 = .ok (.imul, 1) := by decide +kernel
theorem dX9_again_14 : decode cX9_again 14 = .ok (.iload_n 2, 1) := by decide +kernel
theorem dX9_again_15 : decode cX9_again 15 = .ok (.iadd, 1) := by decide +kernel
theorem dX9_again_16 : decode cX9_again 16 = .ok (.istore 5, 2) := by decide +kernel
theorem dX9_again_18 : decode cX9_again 18 = .ok (.iload_n 3, 1) := by decide +kernel
theorem dX9_again_19 : decode cX9_again 19 = .ok (.ifCond .lt 26, 3) := by decide +kernel
theorem dX9_again_22 : decode cX9_again 22 = .ok (.iload_n 3, 1) := by decide +kernel
theorem dX9_again_23 : decode cX9_again 23 = .ok (.aload_n 0, 1) := by decide +kernel
theorem dX9_again_24 : decode cX9_again 24 = .ok (.iload 5, 2) := by decide +kernel
theorem dX9_again_26 : decode cX9_again 26 = .ok (.invokevirtual 69, 3) := by decide +kernel
theorem dX9_again_29 : decode cX9_again 29 = .ok (.if_icmp .ge 16, 3) := by decide +kernel
theorem dX9_again_32 : decode cX9_again 32 = .ok (.iload 4, 2) := by decide +kernel
theorem dX9_again_34 : decode cX9_again 34 = .ok (.ifCond .lt 11, 3) := by decide +kernel
theorem dX9_again_37 : decode cX9_again 37 = .ok (.iload 4, 2) := by decide +kernel
theorem dX9_again_39 : decode cX9_again 39 = .ok (.sipush 500, 3) := by decide +kernel
theorem dX9_again_42 : decode cX9_again 42 = .ok (.if_icmp .le 5, 3) := by decide +kernel
theorem dX9_again_45 : decode cX9_again 45 = .ok (.iconst (-1), 1) := by decide +kernel
theorem dX9_again_46 : decode cX9_again 46 = .ok (.ireturn, 1) := by decide +kernel
theorem dX9_again_47 : decode cX9_again 47 = .ok (.aload_n 0, 1) := by decide +kernel
theorem dX9_again_48 : decode cX9_again 48 = .ok (.getfield 13, 3) := by decide +kernel
theorem dX9_again_51 : decode cX9_again 51 = .ok (.iload 5, 2) := by decide +kernel
theorem dX9_again_53 : decode cX9_again 53 = .ok (.iaload, 1) := by decide +kernel
theorem dX9_again_54 : decode cX9_again 54 = .ok (.iload 4, 2) := by decide +kernel
theorem dX9_again_56 : decode cX9_again 56 = .ok (.iadd, 1) := by decide +kernel
theorem dX9_again_57 : decode cX9_again 57 = .ok (.sipush 500, 3) := by decide +kernel
theorem dX9_again_60 : decode cX9_again 60 = .ok (.if_icmp .le 6, 3) := by decide +kernel
theorem dX9_again_63 : decode cX9_again 63 = .ok (.bipush (-3), 2) := by decide +kernel
theorem dX9_again_65 : decode cX9_again 65 = .ok (.ireturn, 1) := by decide +kernel
theorem dX9_again_66 : decode cX9_again 66 = .ok (.iconst 0, 1) := by decide +kernel
theorem dX9_again_67 : decode cX9_again 67 = .ok (.istore 6, 2) := by decide +kernel
theorem dX9_again_69 : decode cX9_again 69 = .ok (.iload 6, 2) := by decide +kernel
theorem dX9_again_71 : decode cX9_again 71 = .ok (.iload 4, 2) := by decide +kernel
theorem dX9_again_73 : decode cX9_again 73 = .ok (.if_icmp .ge 55, 3) := by decide +kernel
theorem dX9_again_76 : decode cX9_again 76 = .ok (.aload_n 0, 1) := by decide +kernel
theorem dX9_again_77 : decode cX9_again 77 = .ok (.getfield 7, 3) := by decide +kernel
theorem dX9_again_80 : decode cX9_again 80 = .ok (.sipush 500, 3) := by decide +kernel
theorem dX9_again_83 : decode cX9_again 83 = .ok (.iload 5, 2) := by decide +kernel
theorem dX9_again_85 : decode cX9_again 85 = .ok (.imul, 1) := by decide +kernel
theorem dX9_again_86 : decode cX9_again 86 = .ok (.aload_n 0, 1) := by decide +kernel
theorem dX9_again_87 : decode cX9_again 87 = .ok (.getfield 13, 3) := by decide +kernel
theorem dX9_again_90 : decode cX9_again 90 = .ok (.iload 5, 2) := by decide +kernel
theorem dX9_again_92 : decode cX9_again 92 = .ok (.iaload, 1) := by decide +kernel
theorem dX9_again_93 : decode cX9_again 93 = .ok (.iadd, 1) := by decide +kernel
theorem dX9_again_94 : decode cX9_again 94 = .ok (.aload_n 0, 1) := by decide +kernel
theorem dX9_again_95 : decode cX9_again 95 = .ok (.getfield 7, 3) := by decide +kernel
theorem dX9_again_98 : decode cX9_again 98 = .ok (.sipush 500, 3) := by decide +kernel
theorem dX9_again_101 : decode cX9_again 101 = .ok (.iload 5, 2) := by decide +kernel
theorem dX9_again_103 : decode cX9_again 103 = .ok (.imul, 1) := by decide +kernel
theorem dX9_again_104 : decode cX9_again 104 = .ok (.iload_n 3, 1) := by decide +kernel
theorem dX9_again_105 : decode cX9_again 105 = .ok (.iadd, 1) := by decide +kernel
theorem dX9_again_106 : decode cX9_again 106 = .ok (.iload 6, 2) := by decide +kernel
theorem dX9_again_108 : decode cX9_again 108 = .ok (.iadd, 1) := by decide +kernel
theorem dX9_again_109 : decode cX9_again 109 = .ok (.baload, 1) := by decide +kernel
theorem dX9_again_110 : decode cX9_again 110 = .ok (.bastore, 1) := by decide +kernel
theorem dX9_again_111 : decode cX9_again 111 = .ok (.aload_n 0, 1) := by decide +kernel
theorem dX9_again_112 : decode cX9_again 112 = .ok (.getfield 13, 3) := by decide +kernel
theorem dX9_again_115 : decode cX9_again 115 = .ok (.iload 5, 2) := by decide +kernel
theorem dX9_again_117 : decode cX9_again 117 = .ok (.dup2, 1) := by decide +kernel
theorem dX9_again_118 : decode cX9_again 118 = .ok (.iaload, 1) := by decide +kernel
theorem dX9_again_119 : decode cX9_again 119 = .ok (.iconst 1, 1) := by decide +kernel
theorem dX9_again_120 : decode cX9_again 120 = .ok (.iadd, 1) := by decide +kernel
theorem dX9_again_121 : decode cX9_again 121 = .ok (.iastore, 1) := by decide +kernel
theorem dX9_again_122 : decode cX9_again 122 = .ok (.iinc 6 1, 3) := by decide +kernel
theorem dX9_again_125 : decode cX9_again 125 = .ok (.goto (-56), 3) := by decide +kernel
theorem dX9_again_128 : decode cX9_again 128 = .ok (.aload_n 0, 1) := by decide +kernel
theorem dX9_again_129 : decode cX9_again 129 = .ok (.getfield 13, 3) := by decide +kernel
theorem dX9_again_132 : decode cX9_again 132 = .ok (.iload 5, 2) := by decide +kernel
theorem dX9_again_134 : decode cX9_again 134 = .ok (.iaload, 1) := by decide +kernel
theorem dX9_again_135 : decode cX9_again 135 = .ok (.ireturn, 1) := by decide +kernel
theorem dX9_trim_0 : decode cX9_trim 0 = .ok (.iload_n 1, 1) := by decide +kernel
theorem dX9_trim_1 : decode cX9_trim 1 = .ok (.iload_n 2, 1) := by decide +kernel
theorem dX9_trim_2 : decode cX9_trim 2 = .ok (.invokestatic 65, 3) := by decide +kernel
theorem dX9_trim_5 : decode cX9_trim 5 = .ok (.ifCond .eq 38, 3) := by decide +kernel
theorem dX9_trim_8 : decode cX9_trim 8 = .ok (.aload_n 0, 1) := by decide +kernel
theorem dX9_trim_9 : decode cX9_trim 9 = .ok (.getfield 13, 3) := by decide +kernel
theorem dX9_trim_12 : decode cX9_trim 12 = .ok (.bipush 8, 2) := by decide +kernel
theorem dX9_trim_14 : decode cX9_trim 14 = .ok (.iload_n 1, 1) := by decide +kernel
theorem dX9_trim_15 : decode cX9_trim 15 = .ok (.imul, 1) := by decide +kernel
theorem dX9_trim_16 : decode cX9_trim 16 = .ok (.iload_n 2, 1) := by decide +kernel
theorem dX9_trim_17 : decode cX9_trim 17 = .ok (.iadd, 1) := by decide +kernel
theorem dX9_trim_18 : decode cX9_trim 18 = .ok (.iaload, 1) := by decide +kernel
theorem dX9_trim_19 : decode cX9_trim 19 = .ok (.bipush (-2), 2) := by decide +kernel
theorem dX9_trim_21 : decode cX9_trim 21 = .ok (.if_icmp .eq 22, 3) := by decide +kernel
theorem dX9_trim_24 : decode cX9_trim 24 = .ok (.iload_n 3, 1) := by decide +kernel
theorem dX9_trim_25 : decode cX9_trim 25 = .ok (.ifCond .lt 18, 3) := by decide +kernel
theorem dX9_trim_28 : decode cX9_trim 28 = .ok (.iload_n 3, 1) := by decide +kernel
theorem dX9_trim_29 : decode cX9_trim 29 = .ok (.aload_n 0, 1) := by decide +kernel
theorem dX9_trim_30 : decode cX9_trim 30 = .ok (.getfield 13, 3) := by decide +kernel
theorem dX9_trim_33 : decode cX9_trim 33 = .ok (.bipush 8, 2) := by decide +kernel
theorem dX9_trim_35 : decode cX9_trim 35 = .ok (.iload_n 1, 1) := by decide +kernel
theorem dX9_trim_36 : decode cX9_trim 36 = .ok (.imul, 1) := by decide +kernel
theorem dX9_trim_37 : decode cX9_trim 37 = .ok (.iload_n 2, 1) := by decide +kernel
theorem dX9_trim_38 : decode cX9_trim 38 = .ok (.iadd, 1) := by decide +kernel
theorem dX9_trim_39 : decode cX9_trim 39 = .ok (.iaload, 1) := by decide +kernel
theorem dX9_trim_40 : decode cX9_trim 40 = .ok (.if_icmp .le 5, 3) := by decide +kernel
theorem dX9_trim_43 : decode cX9_trim 43 = .ok (.iconst (-1), 1) := by decide +kernel
theorem dX9_trim_44 : decode cX9_trim 44 = .ok (.ireturn, 1) := by decide +kernel
theorem dX9_trim_45 : decode cX9_trim 45 = .ok (.aload_n 0, 1) := by decide +kernel
theorem dX9_trim_46 : decode cX9_trim 46 = .ok (.getfield 13, 3) := by decide +kernel
theorem dX9_trim_49 : decode cX9_trim 49 = .ok (.bipush 8, 2) := by decide +kernel
theorem dX9_trim_51 : decode cX9_trim 51 = .ok (.iload_n 1, 1) := by decide +kernel
theorem dX9_trim_52 : decode cX9_trim 52 = .ok (.imul, 1) := by decide +kernel
theorem dX9_trim_53 : decode cX9_trim 53 = .ok (.iload_n 2, 1) := by decide +kernel
theorem dX9_trim_54 : decode cX9_trim 54 = .ok (.iadd, 1) := by decide +kernel
theorem dX9_trim_55 : decode cX9_trim 55 = .ok (.iaload, 1) := by decide +kernel
theorem dX9_trim_56 : decode cX9_trim 56 = .ok (.istore 4, 2) := by decide +kernel
theorem dX9_trim_58 : decode cX9_trim 58 = .ok (.aload_n 0, 1) := by decide +kernel
theorem dX9_trim_59 : decode cX9_trim 59 = .ok (.getfield 13, 3) := by decide +kernel
theorem dX9_trim_62 : decode cX9_trim 62 = .ok (.bipush 8, 2) := by decide +kernel
theorem dX9_trim_64 : decode cX9_trim 64 = .ok (.iload_n 1, 1) := by decide +kernel
theorem dX9_trim_65 : decode cX9_trim 65 = .ok (.imul, 1) := by decide +kernel
theorem dX9_trim_66 : decode cX9_trim 66 = .ok (.iload_n 2, 1) := by decide +kernel
theorem dX9_trim_67 : decode cX9_trim 67 = .ok (.iadd, 1) := by decide +kernel
theorem dX9_trim_68 : decode cX9_trim 68 = .ok (.iload_n 3, 1) := by decide +kernel
theorem dX9_trim_69 : decode cX9_trim 69 = .ok (.iastore, 1) := by decide +kernel
theorem dX9_trim_70 : decode cX9_trim 70 = .ok (.iload 4, 2) := by decide +kernel
theorem dX9_trim_72 : decode cX9_trim 72 = .ok (.ireturn, 1) := by decide +kernel
theorem dX9_drop_0 : decode cX9_drop 0 = .ok (.iload_n 1, 1) := by decide +kernel
theorem dX9_drop_1 : decode cX9_drop 1 = .ok (.iload_n 2, 1) := by decide +kernel
theorem dX9_drop_2 : decode cX9_drop 2 = .ok (.invokestatic 65, 3) := by decide +kernel
theorem dX9_drop_5 : decode cX9_drop 5 = .ok (.ifCond .eq 19, 3) := by decide +kernel
theorem dX9_drop_8 : decode cX9_drop 8 = .ok (.aload_n 0, 1) := by decide +kernel
theorem dX9_drop_9 : decode cX9_drop 9 = .ok (.getfield 13, 3) := by decide +kernel
theorem dX9_drop_12 : decode cX9_drop 12 = .ok (.bipush 8, 2) := by decide +kernel
theorem dX9_drop_14 : decode cX9_drop 14 = .ok (.iload_n 1, 1) := by decide +kernel
theorem dX9_drop_15 : decode cX9_drop 15 = .ok (.imul, 1) := by decide +kernel
theorem dX9_drop_16 : decode cX9_drop 16 = .ok (.iload_n 2, 1) := by decide +kernel
theorem dX9_drop_17 : decode cX9_drop 17 = .ok (.iadd, 1) := by decide +kernel
theorem dX9_drop_18 : decode cX9_drop 18 = .ok (.iaload, 1) := by decide +kernel
theorem dX9_drop_19 : decode cX9_drop 19 = .ok (.bipush (-2), 2) := by decide +kernel
theorem dX9_drop_21 : decode cX9_drop 21 = .ok (.if_icmp .ne 5, 3) := by decide +kernel
theorem dX9_drop_24 : decode cX9_drop 24 = .ok (.iconst (-1), 1) := by decide +kernel
theorem dX9_drop_25 : decode cX9_drop 25 = .ok (.ireturn, 1) := by decide +kernel
theorem dX9_drop_26 : decode cX9_drop 26 = .ok (.aload_n 0, 1) := by decide +kernel
theorem dX9_drop_27 : decode cX9_drop 27 = .ok (.getfield 13, 3) := by decide +kernel
theorem dX9_drop_30 : decode cX9_drop 30 = .ok (.bipush 8, 2) := by decide +kernel
theorem dX9_drop_32 : decode cX9_drop 32 = .ok (.iload_n 1, 1) := by decide +kernel
theorem dX9_drop_33 : decode cX9_drop 33 = .ok (.imul, 1) := by decide +kernel
theorem dX9_drop_34 : decode cX9_drop 34 = .ok (.iload_n 2, 1) := by decide +kernel
theorem dX9_drop_35 : decode cX9_drop 35 = .ok (.iadd, 1) := by decide +kernel
theorem dX9_drop_36 : decode cX9_drop 36 = .ok (.iaload, 1) := by decide +kernel
theorem dX9_drop_37 : decode cX9_drop 37 = .ok (.istore_n 3, 1) := by decide +kernel
theorem dX9_drop_38 : decode cX9_drop 38 = .ok (.aload_n 0, 1) := by decide +kernel
theorem dX9_drop_39 : decode cX9_drop 39 = .ok (.getfield 13, 3) := by decide +kernel
theorem dX9_drop_42 : decode cX9_drop 42 = .ok (.bipush 8, 2) := by decide +kernel
theorem dX9_drop_44 : decode cX9_drop 44 = .ok (.iload_n 1, 1) := by decide +kernel
theorem dX9_drop_45 : decode cX9_drop 45 = .ok (.imul, 1) := by decide +kernel
theorem dX9_drop_46 : decode cX9_drop 46 = .ok (.iload_n 2, 1) := by decide +kernel
theorem dX9_drop_47 : decode cX9_drop 47 = .ok (.iadd, 1) := by decide +kernel
theorem dX9_drop_48 : decode cX9_drop 48 = .ok (.bipush (-2), 2) := by decide +kernel
theorem dX9_drop_50 : decode cX9_drop 50 = .ok (.iastore, 1) := by decide +kernel
theorem dX9_drop_51 : decode cX9_drop 51 = .ok (.iload_n 3, 1) := by decide +kernel
theorem dX9_drop_52 : decode cX9_drop 52 = .ok (.ireturn, 1) := by decide +kernel
theorem dX9_same_0 : decode cX9_same 0 = .ok (.iload_n 1, 1) := by decide +kernel
theorem dX9_same_1 : decode cX9_same 1 = .ok (.iload_n 2, 1) := by decide +kernel
theorem dX9_same_2 : decode cX9_same 2 = .ok (.invokestatic 65, 3) := by decide +kernel
theorem dX9_same_5 : decode cX9_same 5 = .ok (.ifCond .ne 5, 3) := by decide +kernel
theorem dX9_same_8 : decode cX9_same 8 = .ok (.iconst (-1), 1) := by decide +kernel
theorem dX9_same_9 : decode cX9_same 9 = .ok (.ireturn, 1) := by decide +kernel
theorem dX9_same_10 : decode cX9_same 10 = .ok (.bipush 8, 2) := by decide +kernel
theorem dX9_same_12 : decode cX9_same 12 = .ok (.iload_n 1, 1) := by decide +kernel
theorem dX9_same_13 : decode cX9_same 13 = .ok (.imul, 1) := by decide +kernel
theorem dX9_same_14 : decode cX9_same 14 = .ok (.iload_n 2, 1) := by decide +kernel
theorem dX9_same_15 : decode cX9_same 15 = .ok (.iadd, 1) := by decide +kernel
theorem dX9_same_16 : decode cX9_same 16 = .ok (.istore_n 3, 1) := by decide +kernel
theorem dX9_same_17 : decode cX9_same 17 = .ok (.bipush 8, 2) := by decide +kernel
theorem dX9_same_19 : decode cX9_same 19 = .ok (.iconst 1, 1) := by decide +kernel
theorem dX9_same_20 : decode cX9_same 20 = .ok (.iload_n 1, 1) := by decide +kernel
theorem dX9_same_21 : decode cX9_same 21 = .ok (.isub, 1) := by decide +kernel
theorem dX9_same_22 : decode cX9_same 22 = .ok (.imul, 1) := by decide +kernel
theorem dX9_same_23 : decode cX9_same 23 = .ok (.iload_n 2, 1) := by decide +kernel
theorem dX9_same_24 : decode cX9_same 24 = .ok (.iadd, 1) := by decide +kernel
theorem dX9_same_25 : decode cX9_same 25 = .ok (.istore 4, 2) := by decide +kernel
theorem dX9_same_27 : decode cX9_same 27 = .ok (.aload_n 0, 1) := by decide +kernel
theorem dX9_same_28 : decode cX9_same 28 = .ok (.getfield 13, 3) := by decide +kernel
theorem dX9_same_31 : decode cX9_same 31 = .ok (.iload_n 3, 1) := by decide +kernel
theorem dX9_same_32 : decode cX9_same 32 = .ok (.aload_n 0, 1) := by decide +kernel
theorem dX9_same_33 : decode cX9_same 33 = .ok (.getfield 13, 3) := by decide +kernel
theorem dX9_same_36 : decode cX9_same 36 = .ok (.iload 4, 2) := by decide +kernel
theorem dX9_same_38 : decode cX9_same 38 = .ok (.iaload, 1) := by decide +kernel
theorem dX9_same_39 : decode cX9_same 39 = .ok (.iastore, 1) := by decide +kernel
theorem dX9_same_40 : decode cX9_same 40 = .ok (.iconst 0, 1) := by decide +kernel
theorem dX9_same_41 : decode cX9_same 41 = .ok (.istore 5, 2) := by decide +kernel
theorem dX9_same_43 : decode cX9_same 43 = .ok (.iload 5, 2) := by decide +kernel
theorem dX9_same_45 : decode cX9_same 45 = .ok (.aload_n 0, 1) := by decide +kernel
theorem dX9_same_46 : decode cX9_same 46 = .ok (.iload_n 3, 1) := by decide +kernel
theorem dX9_same_47 : decode cX9_same 47 = .ok (.invokevirtual 69, 3) := by decide +kernel
theorem dX9_same_50 : decode cX9_same 50 = .ok (.if_icmp .ge 36, 3) := by decide +kernel
theorem dX9_same_53 : decode cX9_same 53 = .ok (.aload_n 0, 1) := by decide +kernel
theorem dX9_same_54 : decode cX9_same 54 = .ok (.getfield 7, 3) := by decide +kernel
theorem dX9_same_57 : decode cX9_same 57 = .ok (.sipush 500, 3) := by decide +kernel
theorem dX9_same_60 : decode cX9_same 60 = .ok (.iload_n 3, 1) := by decide +kernel
theorem dX9_same_61 : decode cX9_same 61 = .ok (.imul, 1) := by decide +kernel
theorem dX9_same_62 : decode cX9_same 62 = .ok (.iload 5, 2) := by decide +kernel
theorem dX9_same_64 : decode cX9_same 64 = .ok (.iadd, 1) := by decide +kernel
theorem dX9_same_65 : decode cX9_same 65 = .ok (.aload_n 0, 1) := by decide +kernel
theorem dX9_same_66 : decode cX9_same 66 = .ok (.getfield 7, 3) := by decide +kernel
theorem dX9_same_69 : decode cX9_same 69 = .ok (.sipush 500, 3) := by decide +kernel
theorem dX9_same_72 : decode cX9_same 72 = .ok (.iload 4, 2) := by decide +kernel
theorem dX9_same_74 : decode cX9_same 74 = .ok (.imul, 1) := by decide +kernel
theorem dX9_same_75 : decode cX9_same 75 = .ok (.iload 5, 2) := by decide +kernel
theorem dX9_same_77 : decode cX9_same 77 = .ok (.iadd, 1) := by decide +kernel
theorem dX9_same_78 : decode cX9_same 78 = .ok (.baload, 1) := by decide +kernel
theorem dX9_same_79 : decode cX9_same 79 = .ok (.bastore, 1) := by decide +kernel
theorem dX9_same_80 : decode cX9_same 80 = .ok (.iinc 5 1, 3) := by decide +kernel
theorem dX9_same_83 : decode cX9_same 83 = .ok (.goto (-40), 3) := by decide +kernel
theorem dX9_same_86 : decode cX9_same 86 = .ok (.aload_n 0, 1) := by decide +kernel
theorem dX9_same_87 : decode cX9_same 87 = .ok (.iload_n 3, 1) := by decide +kernel
theorem dX9_same_88 : decode cX9_same 88 = .ok (.invokevirtual 69, 3) := by decide +kernel
theorem dX9_same_91 : decode cX9_same 91 = .ok (.ireturn, 1) := by decide +kernel
theorem dX9_at_0 : decode cX9_at 0 = .ok (.iload_n 1, 1) := by decide +kernel
theorem dX9_at_1 : decode cX9_at 1 = .ok (.iload_n 2, 1) := by decide +kernel
theorem dX9_at_2 : decode cX9_at 2 = .ok (.invokestatic 65, 3) := by decide +kernel
theorem dX9_at_5 : decode cX9_at 5 = .ok (.ifCond .eq 46, 3) := by decide +kernel
theorem dX9_at_8 : decode cX9_at 8 = .ok (.iload_n 3, 1) := by decide +kernel
theorem dX9_at_9 : decode cX9_at 9 = .ok (.ifCond .lt 42, 3) := by decide +kernel
theorem dX9_at_12 : decode cX9_at 12 = .ok (.iload_n 3, 1) := by decide +kernel
theorem dX9_at_13 : decode cX9_at 13 = .ok (.aload_n 0, 1) := by decide +kernel
theorem dX9_at_14 : decode cX9_at 14 = .ok (.getfield 13, 3) := by decide +kernel
theorem dX9_at_17 : decode cX9_at 17 = .ok (.bipush 8, 2) := by decide +kernel
theorem dX9_at_19 : decode cX9_at 19 = .ok (.iload_n 1, 1) := by decide +kernel
theorem dX9_at_20 : decode cX9_at 20 = .ok (.imul, 1) := by decide +kernel
theorem dX9_at_21 : decode cX9_at 21 = .ok (.iload_n 2, 1) := by decide +kernel
theorem dX9_at_22 : decode cX9_at 22 = .ok (.iadd, 1) := by decide +kernel
theorem dX9_at_23 : decode cX9_at 23 = .ok (.iaload, 1) := by decide +kernel
theorem dX9_at_24 : decode cX9_at 24 = .ok (.if_icmp .ge 27, 3) := by decide +kernel
theorem dX9_at_27 : decode cX9_at 27 = .ok (.aload_n 0, 1) := by decide +kernel
theorem dX9_at_28 : decode cX9_at 28 = .ok (.getfield 7, 3) := by decide +kernel
theorem dX9_at_31 : decode cX9_at 31 = .ok (.sipush 500, 3) := by decide +kernel
theorem dX9_at_34 : decode cX9_at 34 = .ok (.bipush 8, 2) := by decide +kernel
theorem dX9_at_36 : decode cX9_at 36 = .ok (.iload_n 1, 1) := by decide +kernel
theorem dX9_at_37 : decode cX9_at 37 = .ok (.imul, 1) := by decide +kernel
theorem dX9_at_38 : decode cX9_at 38 = .ok (.iload_n 2, 1) := by decide +kernel
theorem dX9_at_39 : decode cX9_at 39 = .ok (.iadd, 1) := by decide +kernel
theorem dX9_at_40 : decode cX9_at 40 = .ok (.imul, 1) := by decide +kernel
theorem dX9_at_41 : decode cX9_at 41 = .ok (.iload_n 3, 1) := by decide +kernel
theorem dX9_at_42 : decode cX9_at 42 = .ok (.iadd, 1) := by decide +kernel
theorem dX9_at_43 : decode cX9_at 43 = .ok (.baload, 1) := by decide +kernel
theorem dX9_at_44 : decode cX9_at 44 = .ok (.sipush 255, 3) := by decide +kernel
theorem dX9_at_47 : decode cX9_at 47 = .ok (.iand, 1) := by decide +kernel
theorem dX9_at_48 : decode cX9_at 48 = .ok (.goto 4, 3) := by decide +kernel
theorem dX9_at_51 : decode cX9_at 51 = .ok (.iconst (-1), 1) := by decide +kernel
theorem dX9_at_52 : decode cX9_at 52 = .ok (.ireturn, 1) := by decide +kernel
theorem dX9_size_0 : decode cX9_size 0 = .ok (.iload_n 1, 1) := by decide +kernel
theorem dX9_size_1 : decode cX9_size 1 = .ok (.iload_n 2, 1) := by decide +kernel
theorem dX9_size_2 : decode cX9_size 2 = .ok (.invokestatic 65, 3) := by decide +kernel
theorem dX9_size_5 : decode cX9_size 5 = .ok (.ifCond .eq 17, 3) := by decide +kernel
theorem dX9_size_8 : decode cX9_size 8 = .ok (.aload_n 0, 1) := by decide +kernel
theorem dX9_size_9 : decode cX9_size 9 = .ok (.getfield 13, 3) := by decide +kernel
theorem dX9_size_12 : decode cX9_size 12 = .ok (.bipush 8, 2) := by decide +kernel
theorem dX9_size_14 : decode cX9_size 14 = .ok (.iload_n 1, 1) := by decide +kernel
theorem dX9_size_15 : decode cX9_size 15 = .ok (.imul, 1) := by decide +kernel
theorem dX9_size_16 : decode cX9_size 16 = .ok (.iload_n 2, 1) := by decide +kernel
theorem dX9_size_17 : decode cX9_size 17 = .ok (.iadd, 1) := by decide +kernel
theorem dX9_size_18 : decode cX9_size 18 = .ok (.iaload, 1) := by decide +kernel
theorem dX9_size_19 : decode cX9_size 19 = .ok (.goto 4, 3) := by decide +kernel
theorem dX9_size_22 : decode cX9_size 22 = .ok (.iconst (-1), 1) := by decide +kernel
theorem dX9_size_23 : decode cX9_size 23 = .ok (.ireturn, 1) := by decide +kernel
theorem dX9_digest_0 : decode cX9_digest 0 = .ok (.ldc2_w 73, 3) := by decide +kernel
theorem dX9_digest_3 : decode cX9_digest 3 = .ok (.lstore_n 3, 1) := by decide +kernel
theorem dX9_digest_4 : decode cX9_digest 4 = .ok (.iconst 0, 1) := by decide +kernel
theorem dX9_digest_5 : decode cX9_digest 5 = .ok (.istore 5, 2) := by decide +kernel
theorem dX9_digest_7 : decode cX9_digest 7 = .ok (.iload 5, 2) := by decide +kernel
theorem dX9_digest_9 : decode cX9_digest 9 = .ok (.iload_n 2, 1) := by decide +kernel
theorem dX9_digest_10 : decode cX9_digest 10 = .ok (.if_icmp .ge 27, 3) := by decide +kernel
theorem dX9_digest_13 : decode cX9_digest 13 = .ok (.lload_n 3, 1) := by decide +kernel
theorem dX9_digest_14 : decode cX9_digest 14 = .ok (.aload_n 0, 1) := by decide +kernel
theorem dX9_digest_15 : decode cX9_digest 15 = .ok (.iload_n 1, 1) := by decide +kernel
theorem dX9_digest_16 : decode cX9_digest 16 = .ok (.iload 5, 2) := by decide +kernel
theorem dX9_digest_18 : decode cX9_digest 18 = .ok (.iadd, 1) := by decide +kernel
theorem dX9_digest_19 : decode cX9_digest 19 = .ok (.baload, 1) := by decide +kernel
theorem dX9_digest_20 : decode cX9_digest 20 = .ok (.i2l, 1) := by decide +kernel
theorem dX9_digest_21 : decode cX9_digest 21 = .ok (.ldc2_w 75, 3) := by decide +kernel
theorem dX9_digest_24 : decode cX9_digest 24 = .ok (.land, 1) := by decide +kernel
theorem dX9_digest_25 : decode cX9_digest 25 = .ok (.lxor, 1) := by decide +kernel
theorem dX9_digest_26 : decode cX9_digest 26 = .ok (.ldc2_w 77, 3) := by decide +kernel
theorem dX9_digest_29 : decode cX9_digest 29 = .ok (.lmul, 1) := by decide +kernel
theorem dX9_digest_30 : decode cX9_digest 30 = .ok (.lstore_n 3, 1) := by decide +kernel
theorem dX9_digest_31 : decode cX9_digest 31 = .ok (.iinc 5 1, 3) := by decide +kernel
theorem dX9_digest_34 : decode cX9_digest 34 = .ok (.goto (-27), 3) := by decide +kernel
theorem dX9_digest_37 : decode cX9_digest 37 = .ok (.lload_n 3, 1) := by decide +kernel
theorem dX9_digest_38 : decode cX9_digest 38 = .ok (.lreturn, 1) := by decide +kernel
theorem dX9_strong_0 : decode cX9_strong 0 = .ok (.aload_n 0, 1) := by decide +kernel
theorem dX9_strong_1 : decode cX9_strong 1 = .ok (.iload_n 1, 1) := by decide +kernel
theorem dX9_strong_2 : decode cX9_strong 2 = .ok (.iload_n 2, 1) := by decide +kernel
theorem dX9_strong_3 : decode cX9_strong 3 = .ok (.invokestatic 79, 3) := by decide +kernel
theorem dX9_strong_6 : decode cX9_strong 6 = .ok (.lstore 4, 2) := by decide +kernel
theorem dX9_strong_8 : decode cX9_strong 8 = .ok (.iload_n 3, 1) := by decide +kernel
theorem dX9_strong_9 : decode cX9_strong 9 = .ok (.bipush 8, 2) := by decide +kernel
theorem dX9_strong_11 : decode cX9_strong 11 = .ok (.if_icmp .ne 8, 3) := by decide +kernel
theorem dX9_strong_14 : decode cX9_strong 14 = .ok (.lload 4, 2) := by decide +kernel
theorem dX9_strong_16 : decode cX9_strong 16 = .ok (.goto 14, 3) := by decide +kernel
theorem dX9_strong_19 : decode cX9_strong 19 = .ok (.lload 4, 2) := by decide +kernel
theorem dX9_strong_21 : decode cX9_strong 21 = .ok (.lconst 1, 1) := by decide +kernel
theorem dX9_strong_22 : decode cX9_strong 22 = .ok (.bipush 8, 2) := by decide +kernel
theorem dX9_strong_24 : decode cX9_strong 24 = .ok (.iload_n 3, 1) := by decide +kernel
theorem dX9_strong_25 : decode cX9_strong 25 = .ok (.imul, 1) := by decide +kernel
theorem dX9_strong_26 : decode cX9_strong 26 = .ok (.lshl, 1) := by decide +kernel
theorem dX9_strong_27 : decode cX9_strong 27 = .ok (.lconst 1, 1) := by decide +kernel
theorem dX9_strong_28 : decode cX9_strong 28 = .ok (.lsub, 1) := by decide +kernel
theorem dX9_strong_29 : decode cX9_strong 29 = .ok (.land, 1) := by decide +kernel
theorem dX9_strong_30 : decode cX9_strong 30 = .ok (.lreturn, 1) := by decide +kernel
theorem dX9_weakOf_0 : decode cX9_weakOf 0 = .ok (.lconst 0, 1) := by decide +kernel
theorem dX9_weakOf_1 : decode cX9_weakOf 1 = .ok (.lstore_n 3, 1) := by decide +kernel
theorem dX9_weakOf_2 : decode cX9_weakOf 2 = .ok (.lconst 0, 1) := by decide +kernel
theorem dX9_weakOf_3 : decode cX9_weakOf 3 = .ok (.lstore 5, 2) := by decide +kernel
theorem dX9_weakOf_5 : decode cX9_weakOf 5 = .ok (.iconst 0, 1) := by decide +kernel
theorem dX9_weakOf_6 : decode cX9_weakOf 6 = .ok (.istore 7, 2) := by decide +kernel
theorem dX9_weakOf_8 : decode cX9_weakOf 8 = .ok (.iload 7, 2) := by decide +kernel
theorem dX9_weakOf_10 : decode cX9_weakOf 10 = .ok (.iload_n 2, 1) := by decide +kernel
theorem dX9_weakOf_11 : decode cX9_weakOf 11 = .ok (.if_icmp .ge 45, 3) := by decide +kernel
theorem dX9_weakOf_14 : decode cX9_weakOf 14 = .ok (.lload_n 3, 1) := by decide +kernel
theorem dX9_weakOf_15 : decode cX9_weakOf 15 = .ok (.aload_n 0, 1) := by decide +kernel
theorem dX9_weakOf_16 : decode cX9_weakOf 16 = .ok (.iload_n 1, 1) := by decide +kernel
theorem dX9_weakOf_17 : decode cX9_weakOf 17 = .ok (.iload 7, 2) := by decide +kernel
theorem dX9_weakOf_19 : decode cX9_weakOf 19 = .ok (.iadd, 1) := by decide +kernel
theorem dX9_weakOf_20 : decode cX9_weakOf 20 = .ok (.baload, 1) := by decide +kernel
theorem dX9_weakOf_21 : decode cX9_weakOf 21 = .ok (.i2l, 1) := by decide +kernel
theorem dX9_weakOf_22 : decode cX9_weakOf 22 = .ok (.ldc2_w 75, 3) := by decide +kernel
theorem dX9_weakOf_25 : decode cX9_weakOf 25 = .ok (.land, 1) := by decide +kernel
theorem dX9_weakOf_26 : decode cX9_weakOf 26 = .ok (.ladd, 1) := by decide +kernel
theorem dX9_weakOf_27 : decode cX9_weakOf 27 = .ok (.lstore_n 3, 1) := by decide +kernel
theorem dX9_weakOf_28 : decode cX9_weakOf 28 = .ok (.lload 5, 2) := by decide +kernel
theorem dX9_weakOf_30 : decode cX9_weakOf 30 = .ok (.iload_n 2, 1) := by decide +kernel
theorem dX9_weakOf_31 : decode cX9_weakOf 31 = .ok (.iload 7, 2) := by decide +kernel
theorem dX9_weakOf_33 : decode cX9_weakOf 33 = .ok (.isub, 1) := by decide +kernel
theorem dX9_weakOf_34 : decode cX9_weakOf 34 = .ok (.i2l, 1) := by decide +kernel
theorem dX9_weakOf_35 : decode cX9_weakOf 35 = .ok (.aload_n 0, 1) := by decide +kernel
theorem dX9_weakOf_36 : decode cX9_weakOf 36 = .ok (.iload_n 1, 1) := by decide +kernel
theorem dX9_weakOf_37 : decode cX9_weakOf 37 = .ok (.iload 7, 2) := by decide +kernel
theorem dX9_weakOf_39 : decode cX9_weakOf 39 = .ok (.iadd, 1) := by decide +kernel
theorem dX9_weakOf_40 : decode cX9_weakOf 40 = .ok (.baload, 1) := by decide +kernel
theorem dX9_weakOf_41 : decode cX9_weakOf 41 = .ok (.i2l, 1) := by decide +kernel
theorem dX9_weakOf_42 : decode cX9_weakOf 42 = .ok (.ldc2_w 75, 3) := by decide +kernel
theorem dX9_weakOf_45 : decode cX9_weakOf 45 = .ok (.land, 1) := by decide +kernel
theorem dX9_weakOf_46 : decode cX9_weakOf 46 = .ok (.lmul, 1) := by decide +kernel
theorem dX9_weakOf_47 : decode cX9_weakOf 47 = .ok (.ladd, 1) := by decide +kernel
theorem dX9_weakOf_48 : decode cX9_weakOf 48 = .ok (.lstore 5, 2) := by decide +kernel
theorem dX9_weakOf_50 : decode cX9_weakOf 50 = .ok (.iinc 7 1, 3) := by decide +kernel
theorem dX9_weakOf_53 : decode cX9_weakOf 53 = .ok (.goto (-45), 3) := by decide +kernel
theorem dX9_weakOf_56 : decode cX9_weakOf 56 = .ok (.lload_n 3, 1) := by decide +kernel
theorem dX9_weakOf_57 : decode cX9_weakOf 57 = .ok (.ldc2_w 83, 3) := by decide +kernel
theorem dX9_weakOf_60 : decode cX9_weakOf 60 = .ok (.lrem, 1) := by decide +kernel
theorem dX9_weakOf_61 : decode cX9_weakOf 61 = .ok (.ldc2_w 83, 3) := by decide +kernel
theorem dX9_weakOf_64 : decode cX9_weakOf 64 = .ok (.lload 5, 2) := by decide +kernel
theorem dX9_weakOf_66 : decode cX9_weakOf 66 = .ok (.ldc2_w 83, 3) := by decide +kernel
theorem dX9_weakOf_69 : decode cX9_weakOf 69 = .ok (.lrem, 1) := by decide +kernel
theorem dX9_weakOf_70 : decode cX9_weakOf 70 = .ok (.lmul, 1) := by decide +kernel
theorem dX9_weakOf_71 : decode cX9_weakOf 71 = .ok (.ladd, 1) := by decide +kernel
theorem dX9_weakOf_72 : decode cX9_weakOf 72 = .ok (.lreturn, 1) := by decide +kernel
theorem dX9_weak_0 : decode cX9_weak 0 = .ok (.iload_n 1, 1) := by decide +kernel
theorem dX9_weak_1 : decode cX9_weak 1 = .ok (.iload_n 2, 1) := by decide +kernel
theorem dX9_weak_2 : decode cX9_weak 2 = .ok (.invokestatic 65, 3) := by decide +kernel
theorem dX9_weak_5 : decode cX9_weak 5 = .ok (.ifCond .eq 38, 3) := by decide +kernel
theorem dX9_weak_8 : decode cX9_weak 8 = .ok (.iload 4, 2) := by decide +kernel
theorem dX9_weak_10 : decode cX9_weak 10 = .ok (.iconst 1, 1) := by decide +kernel
theorem dX9_weak_11 : decode cX9_weak 11 = .ok (.if_icmp .lt 32, 3) := by decide +kernel
theorem dX9_weak_14 : decode cX9_weak 14 = .ok (.iload 4, 2) := by decide +kernel
theorem dX9_weak_16 : decode cX9_weak 16 = .ok (.bipush 64, 2) := by decide +kernel
theorem dX9_weak_18 : decode cX9_weak 18 = .ok (.if_icmp .gt 25, 3) := by decide +kernel
theorem dX9_weak_21 : decode cX9_weak 21 = .ok (.iload_n 3, 1) := by decide +kernel
theorem dX9_weak_22 : decode cX9_weak 22 = .ok (.ifCond .lt 21, 3) := by decide +kernel
theorem dX9_weak_25 : decode cX9_weak 25 = .ok (.iload_n 3, 1) := by decide +kernel
theorem dX9_weak_26 : decode cX9_weak 26 = .ok (.aload_n 0, 1) := by decide +kernel
theorem dX9_weak_27 : decode cX9_weak 27 = .ok (.getfield 13, 3) := by decide +kernel
theorem dX9_weak_30 : decode cX9_weak 30 = .ok (.bipush 8, 2) := by decide +kernel
theorem dX9_weak_32 : decode cX9_weak 32 = .ok (.iload_n 1, 1) := by decide +kernel
theorem dX9_weak_33 : decode cX9_weak 33 = .ok (.imul, 1) := by decide +kernel
theorem dX9_weak_34 : decode cX9_weak 34 = .ok (.iload_n 2, 1) := by decide +kernel
theorem dX9_weak_35 : decode cX9_weak 35 = .ok (.iadd, 1) := by decide +kernel
theorem dX9_weak_36 : decode cX9_weak 36 = .ok (.iaload, 1) := by decide +kernel
theorem dX9_weak_37 : decode cX9_weak 37 = .ok (.iload 4, 2) := by decide +kernel
theorem dX9_weak_39 : decode cX9_weak 39 = .ok (.isub, 1) := by decide +kernel
theorem dX9_weak_40 : decode cX9_weak 40 = .ok (.if_icmp .le 7, 3) := by decide +kernel
theorem dX9_weak_43 : decode cX9_weak 43 = .ok (.ldc2_w 85, 3) := by decide +kernel
theorem dX9_weak_46 : decode cX9_weak 46 = .ok (.lreturn, 1) := by decide +kernel
theorem dX9_weak_47 : decode cX9_weak 47 = .ok (.aload_n 0, 1) := by decide +kernel
theorem dX9_weak_48 : decode cX9_weak 48 = .ok (.getfield 7, 3) := by decide +kernel
theorem dX9_weak_51 : decode cX9_weak 51 = .ok (.sipush 500, 3) := by decide +kernel
theorem dX9_weak_54 : decode cX9_weak 54 = .ok (.bipush 8, 2) := by decide +kernel
theorem dX9_weak_56 : decode cX9_weak 56 = .ok (.iload_n 1, 1) := by decide +kernel
theorem dX9_weak_57 : decode cX9_weak 57 = .ok (.imul, 1) := by decide +kernel
theorem dX9_weak_58 : decode cX9_weak 58 = .ok (.iload_n 2, 1) := by decide +kernel
theorem dX9_weak_59 : decode cX9_weak 59 = .ok (.iadd, 1) := by decide +kernel
theorem dX9_weak_60 : decode cX9_weak 60 = .ok (.imul, 1) := by decide +kernel
theorem dX9_weak_61 : decode cX9_weak 61 = .ok (.iload_n 3, 1) := by decide +kernel
theorem dX9_weak_62 : decode cX9_weak 62 = .ok (.iadd, 1) := by decide +kernel
theorem dX9_weak_63 : decode cX9_weak 63 = .ok (.iload 4, 2) := by decide +kernel
theorem dX9_weak_65 : decode cX9_weak 65 = .ok (.invokestatic 87, 3) := by decide +kernel
theorem dX9_weak_68 : decode cX9_weak 68 = .ok (.lreturn, 1) := by decide +kernel
theorem dX9_node_0 : decode cX9_node 0 = .ok (.iload_n 1, 1) := by decide +kernel
theorem dX9_node_1 : decode cX9_node 1 = .ok (.ifCond .lt 19, 3) := by decide +kernel
theorem dX9_node_4 : decode cX9_node 4 = .ok (.iload_n 1, 1) := by decide +kernel
theorem dX9_node_5 : decode cX9_node 5 = .ok (.iconst 1, 1) := by decide +kernel
theorem dX9_node_6 : decode cX9_node 6 = .ok (.if_icmp .gt 14, 3) := by decide +kernel
theorem dX9_node_9 : decode cX9_node 9 = .ok (.iload_n 2, 1) := by decide +kernel
theorem dX9_node_10 : decode cX9_node 10 = .ok (.iconst 1, 1) := by decide +kernel
theorem dX9_node_11 : decode cX9_node 11 = .ok (.if_icmp .lt 9, 3) := by decide +kernel
theorem dX9_node_14 : decode cX9_node 14 = .ok (.iload_n 2, 1) := by decide +kernel
theorem dX9_node_15 : decode cX9_node 15 = .ok (.bipush 15, 2) := by decide +kernel
theorem dX9_node_17 : decode cX9_node 17 = .ok (.if_icmp .le 5, 3) := by decide +kernel
theorem dX9_node_20 : decode cX9_node 20 = .ok (.lconst 0, 1) := by decide +kernel
theorem dX9_node_21 : decode cX9_node 21 = .ok (.lreturn, 1) := by decide +kernel
theorem dX9_node_22 : decode cX9_node 22 = .ok (.bipush 15, 2) := by decide +kernel
theorem dX9_node_24 : decode cX9_node 24 = .ok (.istore_n 3, 1) := by decide +kernel
theorem dX9_node_25 : decode cX9_node 25 = .ok (.iload_n 3, 1) := by decide +kernel
theorem dX9_node_26 : decode cX9_node 26 = .ok (.iload_n 2, 1) := by decide +kernel
theorem dX9_node_27 : decode cX9_node 27 = .ok (.if_icmp .lt 160, 3) := by decide +kernel
theorem dX9_node_30 : decode cX9_node 30 = .ok (.iload_n 3, 1) := by decide +kernel
theorem dX9_node_31 : decode cX9_node 31 = .ok (.bipush 8, 2) := by decide +kernel
theorem dX9_node_33 : decode cX9_node 33 = .ok (.if_icmp .lt 59, 3) := by decide +kernel
theorem dX9_node_36 : decode cX9_node 36 = .ok (.bipush 8, 2) := by decide +kernel
theorem dX9_node_38 : decode cX9_node 38 = .ok (.iload_n 1, 1) := by decide +kernel
theorem dX9_node_39 : decode cX9_node 39 = .ok (.imul, 1) := by decide +kernel
theorem dX9_node_40 : decode cX9_node 40 = .ok (.iload_n 3, 1) := by decide +kernel
theorem dX9_node_41 : decode cX9_node 41 = .ok (.iadd, 1) := by decide +kernel
theorem dX9_node_42 : decode cX9_node 42 = .ok (.bipush 8, 2) := by decide +kernel
theorem dX9_node_44 : decode cX9_node 44 = .ok (.isub, 1) := by decide +kernel
theorem dX9_node_45 : decode cX9_node 45 = .ok (.istore 4, 2) := by decide +kernel
theorem dX9_node_47 : decode cX9_node 47 = .ok (.aload_n 0, 1) := by decide +kernel
theorem dX9_node_48 : decode cX9_node 48 = .ok (.getfield 20, 3) := by decide +kernel
theorem dX9_node_51 : decode cX9_node 51 = .ok (.iload_n 3, 1) := by decide +kernel
theorem dX9_node_52 : decode cX9_node 52 = .ok (.aload_n 0, 1) := by decide +kernel
theorem dX9_node_53 : decode cX9_node 53 = .ok (.getfield 13, 3) := by decide +kernel
theorem dX9_node_56 : decode cX9_node 56 = .ok (.iload 4, 2) := by decide +kernel
theorem dX9_node_58 : decode cX9_node 58 = .ok (.iaload, 1) := by decide +kernel
theorem dX9_node_59 : decode cX9_node 59 = .ok (.bipush (-2), 2) := by decide +kernel
theorem dX9_node_61 : decode cX9_node 61 = .ok (.if_icmp .ne 7, 3) := by decide +kernel
theorem dX9_node_64 : decode cX9_node 64 = .ok (.lconst 0, 1) := by decide +kernel
theorem dX9_node_65 : decode cX9_node 65 = .ok (.goto 23, 3) := by decide +kernel
theorem dX9_node_68 : decode cX9_node 68 = .ok (.aload_n 0, 1) := by decide +kernel
theorem dX9_node_69 : decode cX9_node 69 = .ok (.getfield 7, 3) := by decide +kernel
theorem dX9_node_72 : decode cX9_node 72 = .ok (.sipush 500, 3) := by decide +kernel
theorem dX9_node_75 : decode cX9_node 75 = .ok (.iload 4, 2) := by decide +kernel
theorem dX9_node_77 : decode cX9_node 77 = .ok (.imul, 1) := by decide +kernel
theorem dX9_node_78 : decode cX9_node 78 = .ok (.aload_n 0, 1) := by decide +kernel
theorem dX9_node_79 : decode cX9_node 79 = .ok (.getfield 13, 3) := by decide +kernel
theorem dX9_node_82 : decode cX9_node 82 = .ok (.iload 4, 2) := by decide +kernel
theorem dX9_node_84 : decode cX9_node 84 = .ok (.iaload, 1) := by decide +kernel
theorem dX9_node_85 : decode cX9_node 85 = .ok (.invokestatic 79, 3) := by decide +kernel
theorem dX9_node_88 : decode cX9_node 88 = .ok (.lastore, 1) := by decide +kernel
theorem dX9_node_89 : decode cX9_node 89 = .ok (.goto 92, 3) := by decide +kernel
theorem dX9_node_92 : decode cX9_node 92 = .ok (.iconst 0, 1) := by decide +kernel
theorem dX9_node_93 : decode cX9_node 93 = .ok (.istore 4, 2) := by decide +kernel
theorem dX9_node_95 : decode cX9_node 95 = .ok (.iload 4, 2) := by decide +kernel
theorem dX9_node_97 : decode cX9_node 97 = .ok (.bipush 8, 2) := by decide +kernel
theorem dX9_node_99 : decode cX9_node 99 = .ok (.if_icmp .ge 66, 3) := by decide +kernel
theorem dX9_node_102 : decode cX9_node 102 = .ok (.aload_n 0, 1) := by decide +kernel
theorem dX9_node_103 : decode cX9_node 103 = .ok (.getfield 17, 3) := by decide +kernel
theorem dX9_node_106 : decode cX9_node 106 = .ok (.iload 4, 2) := by decide +kernel
theorem dX9_node_108 : decode cX9_node 108 = .ok (.aload_n 0, 1) := by decide +kernel
theorem dX9_node_109 : decode cX9_node 109 = .ok (.getfield 20, 3) := by decide +kernel
theorem dX9_node_112 : decode cX9_node 112 = .ok (.iconst 2, 1) := by decide +kernel
theorem dX9_node_113 : decode cX9_node 113 = .ok (.iload_n 3, 1) := by decide +kernel
theorem dX9_node_114 : decode cX9_node 114 = .ok (.imul, 1) := by decide +kernel
theorem dX9_node_115 : decode cX9_node 115 = .ok (.laload, 1) := by decide +kernel
theorem dX9_node_116 : decode cX9_node 116 = .ok (.bipush 56, 2) := by decide +kernel
theorem dX9_node_118 : decode cX9_node 118 = .ok (.bipush 8, 2) := by decide +kernel
theorem dX9_node_120 : decode cX9_node 120 = .ok (.iload 4, 2) := by decide +kernel
theorem dX9_node_122 : decode cX9_node 122 = .ok (.imul, 1) := by decide +kernel
theorem dX9_node_123 : decode cX9_node 123 = .ok (.isub, 1) := by decide +kernel
theorem dX9_node_124 : decode cX9_node 124 = .ok (.lshr, 1) := by decide +kernel
theorem dX9_node_125 : decode cX9_node 125 = .ok (.l2i, 1) := by decide +kernel
theorem dX9_node_126 : decode cX9_node 126 = .ok (.i2b, 1) := by decide +kernel
theorem dX9_node_127 : decode cX9_node 127 = .ok (.bastore, 1) := by decide +kernel
theorem dX9_node_128 : decode cX9_node 128 = .ok (.aload_n 0, 1) := by decide +kernel
theorem dX9_node_129 : decode cX9_node 129 = .ok (.getfield 17, 3) := by decide +kernel
theorem dX9_node_132 : decode cX9_node 132 = .ok (.bipush 8, 2) := by decide +kernel
theorem dX9_node_134 : decode cX9_node 134 = .ok (.iload 4, 2) := by decide +kernel
theorem dX9_node_136 : decode cX9_node 136 = .ok (.iadd, 1) := by decide +kernel
theorem dX9_node_137 : decode cX9_node 137 = .ok (.aload_n 0, 1) := by decide +kernel
theorem dX9_node_138 : decode cX9_node 138 = .ok (.getfield 20, 3) := by decide +kernel
theorem dX9_node_141 : decode cX9_node 141 = .ok (.iconst 2, 1) := by decide +kernel
theorem dX9_node_142 : decode cX9_node 142 = .ok (.iload_n 3, 1) := by decide +kernel
theorem dX9_node_143 : decode cX9_node 143 = .ok (.imul, 1) := by decide +kernel
theorem dX9_node_144 : decode cX9_node 144 = .ok (.iconst 1, 1) := by decide +kernel
theorem dX9_node_145 : decode cX9_node 145 = .ok (.iadd, 1) := by decide +kernel
theorem dX9_node_146 : decode cX9_node 146 = .ok (.laload, 1) := by decide +kernel
theorem dX9_node_147 : decode cX9_node 147 = .ok (.bipush 56, 2) := by decide +kernel
theorem dX9_node_149 : decode cX9_node 149 = .ok (.bipush 8, 2) := by decide +kernel
theorem dX9_node_151 : decode cX9_node 151 = .ok (.iload 4, 2) := by decide +kernel
theorem dX9_node_153 : decode cX9_node 153 = .ok (.imul, 1) := by decide +kernel
theorem dX9_node_154 : decode cX9_node 154 = .ok (.isub, 1) := by decide +kernel
theorem dX9_node_155 : decode cX9_node 155 = .ok (.lshr, 1) := by decide +kernel
theorem dX9_node_156 : decode cX9_node 156 = .ok (.l2i, 1) := by decide +kernel
theorem dX9_node_157 : decode cX9_node 157 = .ok (.i2b, 1) := by decide +kernel
theorem dX9_node_158 : decode cX9_node 158 = .ok (.bastore, 1) := by decide +kernel
theorem dX9_node_159 : decode cX9_node 159 = .ok (.iinc 4 1, 3) := by decide +kernel
theorem dX9_node_162 : decode cX9_node 162 = .ok (.goto (-67), 3) := by decide +kernel
theorem dX9_node_165 : decode cX9_node 165 = .ok (.aload_n 0, 1) := by decide +kernel
theorem dX9_node_166 : decode cX9_node 166 = .ok (.getfield 20, 3) := by decide +kernel
theorem dX9_node_169 : decode cX9_node 169 = .ok (.iload_n 3, 1) := by decide +kernel
theorem dX9_node_170 : decode cX9_node 170 = .ok (.aload_n 0, 1) := by decide +kernel
theorem dX9_node_171 : decode cX9_node 171 = .ok (.getfield 17, 3) := by decide +kernel
theorem dX9_node_174 : decode cX9_node 174 = .ok (.iconst 0, 1) := by decide +kernel
theorem dX9_node_175 : decode cX9_node 175 = .ok (.bipush 16, 2) := by decide +kernel
theorem dX9_node_177 : decode cX9_node 177 = .ok (.invokestatic 79, 3) := by decide +kernel
theorem dX9_node_180 : decode cX9_node 180 = .ok (.lastore, 1) := by decide +kernel
theorem dX9_node_181 : decode cX9_node 181 = .ok (.iinc 3 (-1), 3) := by decide +kernel
theorem dX9_node_184 : decode cX9_node 184 = .ok (.goto (-159), 3) := by decide +kernel
theorem dX9_node_187 : decode cX9_node 187 = .ok (.aload_n 0, 1) := by decide +kernel
theorem dX9_node_188 : decode cX9_node 188 = .ok (.getfield 20, 3) := by decide +kernel
theorem dX9_node_191 : decode cX9_node 191 = .ok (.iload_n 2, 1) := by decide +kernel
theorem dX9_node_192 : decode cX9_node 192 = .ok (.laload, 1) := by decide +kernel
theorem dX9_node_193 : decode cX9_node 193 = .ok (.lreturn, 1) := by decide +kernel
theorem dX9_target_0 : decode cX9_target 0 = .ok (.iconst 1, 1) := by decide +kernel
theorem dX9_target_1 : decode cX9_target 1 = .ok (.aload_n 0, 1) := by decide +kernel
theorem dX9_target_2 : decode cX9_target 2 = .ok (.getfield 90, 3) := by decide +kernel
theorem dX9_target_5 : decode cX9_target 5 = .ok (.isub, 1) := by decide +kernel
theorem dX9_target_6 : decode cX9_target 6 = .ok (.ireturn, 1) := by decide +kernel
theorem dX9_begin_0 : decode cX9_begin 0 = .ok (.iload_n 1, 1) := by decide +kernel
theorem dX9_begin_1 : decode cX9_begin 1 = .ok (.ifCond .lt 41, 3) := by decide +kernel
theorem dX9_begin_4 : decode cX9_begin 4 = .ok (.iload_n 1, 1) := by decide +kernel
theorem dX9_begin_5 : decode cX9_begin 5 = .ok (.iconst 1, 1) := by decide +kernel
theorem dX9_begin_6 : decode cX9_begin 6 = .ok (.if_icmp .gt 36, 3) := by decide +kernel
theorem dX9_begin_9 : decode cX9_begin 9 = .ok (.iload_n 2, 1) := by decide +kernel
theorem dX9_begin_10 : decode cX9_begin 10 = .ok (.iconst 1, 1) := by decide +kernel
theorem dX9_begin_11 : decode cX9_begin 11 = .ok (.if_icmp .lt 31, 3) := by decide +kernel
theorem dX9_begin_14 : decode cX9_begin 14 = .ok (.iload_n 2, 1) := by decide +kernel
theorem dX9_begin_15 : decode cX9_begin 15 = .ok (.bipush 64, 2) := by decide +kernel
theorem dX9_begin_17 : decode cX9_begin 17 = .ok (.if_icmp .gt 25, 3) := by decide +kernel
theorem dX9_begin_20 : decode cX9_begin 20 = .ok (.iload_n 3, 1) := by decide +kernel
theorem dX9_begin_21 : decode cX9_begin 21 = .ok (.iconst 1, 1) := by decide +kernel
theorem dX9_begin_22 : decode cX9_begin 22 = .ok (.if_icmp .lt 20, 3) := by decide +kernel
theorem dX9_begin_25 : decode cX9_begin 25 = .ok (.iload_n 3, 1) := by decide +kernel
theorem dX9_begin_26 : decode cX9_begin 26 = .ok (.bipush 8, 2) := by decide +kernel
theorem dX9_begin_28 : decode cX9_begin 28 = .ok (.if_icmp .gt 14, 3) := by decide +kernel
theorem dX9_begin_31 : decode cX9_begin 31 = .ok (.iload 4, 2) := by decide +kernel
theorem dX9_begin_33 : decode cX9_begin 33 = .ok (.ifCond .lt 9, 3) := by decide +kernel
theorem dX9_begin_36 : decode cX9_begin 36 = .ok (.iload 4, 2) := by decide +kernel
theorem dX9_begin_38 : decode cX9_begin 38 = .ok (.iconst 2, 1) := by decide +kernel
theorem dX9_begin_39 : decode cX9_begin 39 = .ok (.if_icmp .le 5, 3) := by decide +kernel
theorem dX9_begin_42 : decode cX9_begin 42 = .ok (.iconst (-1), 1) := by decide +kernel
theorem dX9_begin_43 : decode cX9_begin 43 = .ok (.ireturn, 1) := by decide +kernel
theorem dX9_begin_44 : decode cX9_begin 44 = .ok (.aload_n 0, 1) := by decide +kernel
theorem dX9_begin_45 : decode cX9_begin 45 = .ok (.getfield 94, 3) := by decide +kernel
theorem dX9_begin_48 : decode cX9_begin 48 = .ok (.iconst 1, 1) := by decide +kernel
theorem dX9_begin_49 : decode cX9_begin 49 = .ok (.if_icmp .ne 6, 3) := by decide +kernel
theorem dX9_begin_52 : decode cX9_begin 52 = .ok (.bipush (-2), 2) := by decide +kernel
theorem dX9_begin_54 : decode cX9_begin 54 = .ok (.ireturn, 1) := by decide +kernel
theorem dX9_begin_55 : decode cX9_begin 55 = .ok (.aload_n 0, 1) := by decide +kernel
theorem dX9_begin_56 : decode cX9_begin 56 = .ok (.iconst 1, 1) := by decide +kernel
theorem dX9_begin_57 : decode cX9_begin 57 = .ok (.putfield 94, 3) := by decide +kernel
theorem dX9_begin_60 : decode cX9_begin 60 = .ok (.aload_n 0, 1) := by decide +kernel
theorem dX9_begin_61 : decode cX9_begin 61 = .ok (.iload_n 1, 1) := by decide +kernel
theorem dX9_begin_62 : decode cX9_begin 62 = .ok (.putfield 90, 3) := by decide +kernel
theorem dX9_begin_65 : decode cX9_begin 65 = .ok (.aload_n 0, 1) := by decide +kernel
theorem dX9_begin_66 : decode cX9_begin 66 = .ok (.iload_n 2, 1) := by decide +kernel
theorem dX9_begin_67 : decode cX9_begin 67 = .ok (.putfield 97, 3) := by decide +kernel
theorem dX9_begin_70 : decode cX9_begin 70 = .ok (.aload_n 0, 1) := by decide +kernel
theorem dX9_begin_71 : decode cX9_begin 71 = .ok (.iload 4, 2) := by decide +kernel
theorem dX9_begin_73 : decode cX9_begin 73 = .ok (.putfield 100, 3) := by decide +kernel
theorem dX9_begin_76 : decode cX9_begin 76 = .ok (.aload_n 0, 1) := by decide +kernel
theorem dX9_begin_77 : decode cX9_begin 77 = .ok (.iload_n 3, 1) := by decide +kernel
theorem dX9_begin_78 : decode cX9_begin 78 = .ok (.putfield 103, 3) := by decide +kernel
theorem dX9_begin_81 : decode cX9_begin 81 = .ok (.iconst 0, 1) := by decide +kernel
theorem dX9_begin_82 : decode cX9_begin 82 = .ok (.istore 5, 2) := by decide +kernel
theorem dX9_begin_84 : decode cX9_begin 84 = .ok (.iload 5, 2) := by decide +kernel
theorem dX9_begin_86 : decode cX9_begin 86 = .ok (.bipush 16, 2) := by decide +kernel
theorem dX9_begin_88 : decode cX9_begin 88 = .ok (.if_icmp .ge 17, 3) := by decide +kernel
theorem dX9_begin_91 : decode cX9_begin 91 = .ok (.aload_n 0, 1) := by decide +kernel
theorem dX9_begin_92 : decode cX9_begin 92 = .ok (.getfield 24, 3) := by decide +kernel
theorem dX9_begin_95 : decode cX9_begin 95 = .ok (.iload 5, 2) := by decide +kernel
theorem dX9_begin_97 : decode cX9_begin 97 = .ok (.iconst 0, 1) := by decide +kernel
theorem dX9_begin_98 : decode cX9_begin 98 = .ok (.iastore, 1) := by decide +kernel
theorem dX9_begin_99 : decode cX9_begin 99 = .ok (.iinc 5 1, 3) := by decide +kernel
theorem dX9_begin_102 : decode cX9_begin 102 = .ok (.goto (-18), 3) := by decide +kernel
theorem dX9_begin_105 : decode cX9_begin 105 = .ok (.aload_n 0, 1) := by decide +kernel
theorem dX9_begin_106 : decode cX9_begin 106 = .ok (.getfield 24, 3) := by decide +kernel
theorem dX9_begin_109 : decode cX9_begin 109 = .ok (.bipush 14, 2) := by decide +kernel
theorem dX9_begin_111 : decode cX9_begin 111 = .ok (.bipush (-2), 2) := by decide +kernel
theorem dX9_begin_113 : decode cX9_begin 113 = .ok (.iastore, 1) := by decide +kernel
theorem dX9_begin_114 : decode cX9_begin 114 = .ok (.iconst 0, 1) := by decide +kernel
theorem dX9_begin_115 : decode cX9_begin 115 = .ok (.istore 5, 2) := by decide +kernel
theorem dX9_begin_117 : decode cX9_begin 117 = .ok (.iload 5, 2) := by decide +kernel
theorem dX9_begin_119 : decode cX9_begin 119 = .ok (.bipush 8, 2) := by decide +kernel
theorem dX9_begin_121 : decode cX9_begin 121 = .ok (.if_icmp .ge 25, 3) := by decide +kernel
theorem dX9_begin_124 : decode cX9_begin 124 = .ok (.aload_n 0, 1) := by decide +kernel
theorem dX9_begin_125 : decode cX9_begin 125 = .ok (.getfield 33, 3) := by decide +kernel
theorem dX9_begin_128 : decode cX9_begin 128 = .ok (.iload 5, 2) := by decide +kernel
theorem dX9_begin_130 : decode cX9_begin 130 = .ok (.iconst 0, 1) := by decide +kernel
theorem dX9_begin_131 : decode cX9_begin 131 = .ok (.bastore, 1) := by decide +kernel
theorem dX9_begin_132 : decode cX9_begin 132 = .ok (.aload_n 0, 1) := by decide +kernel
theorem dX9_begin_133 : decode cX9_begin 133 = .ok (.getfield 37, 3) := by decide +kernel
theorem dX9_begin_136 : decode cX9_begin 136 = .ok (.iload 5, 2) := by decide +kernel
theorem dX9_begin_138 : decode cX9_begin 138 = .ok (.iconst 0, 1) := by decide +kernel
theorem dX9_begin_139 : decode cX9_begin 139 = .ok (.bastore, 1) := by decide +kernel
theorem dX9_begin_140 : decode cX9_begin 140 = .ok (.iinc 5 1, 3) := by decide +kernel
theorem dX9_begin_143 : decode cX9_begin 143 = .ok (.goto (-26), 3) := by decide +kernel
theorem dX9_begin_146 : decode cX9_begin 146 = .ok (.aload_n 0, 1) := by decide +kernel
theorem dX9_begin_147 : decode cX9_begin 147 = .ok (.getfield 30, 3) := by decide +kernel
theorem dX9_begin_150 : decode cX9_begin 150 = .ok (.iconst 0, 1) := by decide +kernel
theorem dX9_begin_151 : decode cX9_begin 151 = .ok (.iconst 1, 1) := by decide +kernel
theorem dX9_begin_152 : decode cX9_begin 152 = .ok (.iastore, 1) := by decide +kernel
theorem dX9_begin_153 : decode cX9_begin 153 = .ok (.aload_n 0, 1) := by decide +kernel
theorem dX9_begin_154 : decode cX9_begin 154 = .ok (.iconst 1, 1) := by decide +kernel
theorem dX9_begin_155 : decode cX9_begin 155 = .ok (.putfield 106, 3) := by decide +kernel
theorem dX9_begin_158 : decode cX9_begin 158 = .ok (.aload_n 0, 1) := by decide +kernel
theorem dX9_begin_159 : decode cX9_begin 159 = .ok (.iconst 0, 1) := by decide +kernel
theorem dX9_begin_160 : decode cX9_begin 160 = .ok (.putfield 109, 3) := by decide +kernel
theorem dX9_begin_163 : decode cX9_begin 163 = .ok (.aload_n 0, 1) := by decide +kernel
theorem dX9_begin_164 : decode cX9_begin 164 = .ok (.bipush (-2), 2) := by decide +kernel
theorem dX9_begin_166 : decode cX9_begin 166 = .ok (.putfield 112, 3) := by decide +kernel
theorem dX9_begin_169 : decode cX9_begin 169 = .ok (.aload_n 0, 1) := by decide +kernel
theorem dX9_begin_170 : decode cX9_begin 170 = .ok (.iconst 0, 1) := by decide +kernel
theorem dX9_begin_171 : decode cX9_begin 171 = .ok (.putfield 115, 3) := by decide +kernel
theorem dX9_begin_174 : decode cX9_begin 174 = .ok (.aload_n 0, 1) := by decide +kernel
theorem dX9_begin_175 : decode cX9_begin 175 = .ok (.iconst 0, 1) := by decide +kernel
theorem dX9_begin_176 : decode cX9_begin 176 = .ok (.putfield 119, 3) := by decide +kernel
theorem dX9_begin_179 : decode cX9_begin 179 = .ok (.iconst 1, 1) := by decide +kernel
theorem dX9_begin_180 : decode cX9_begin 180 = .ok (.ireturn, 1) := by decide +kernel
theorem dX9_step_0 : decode cX9_step 0 = .ok (.iload_n 1, 1) := by decide +kernel
theorem dX9_step_1 : decode cX9_step 1 = .ok (.iconst 1, 1) := by decide +kernel
theorem dX9_step_2 : decode cX9_step 2 = .ok (.if_icmp .lt 10, 3) := by decide +kernel
theorem dX9_step_5 : decode cX9_step 5 = .ok (.iload_n 1, 1) := by decide +kernel
theorem dX9_step_6 : decode cX9_step 6 = .ok (.sipush 200, 3) := by decide +kernel
theorem dX9_step_9 : decode cX9_step 9 = .ok (.if_icmp .le 5, 3) := by decide +kernel
theorem dX9_step_12 : decode cX9_step 12 = .ok (.iconst (-1), 1) := by decide +kernel
theorem dX9_step_13 : decode cX9_step 13 = .ok (.ireturn, 1) := by decide +kernel
theorem dX9_step_14 : decode cX9_step 14 = .ok (.aload_n 0, 1) := by decide +kernel
theorem dX9_step_15 : decode cX9_step 15 = .ok (.getfield 94, 3) := by decide +kernel
theorem dX9_step_18 : decode cX9_step 18 = .ok (.iconst 1, 1) := by decide +kernel
theorem dX9_step_19 : decode cX9_step 19 = .ok (.if_icmp .eq 6, 3) := by decide +kernel
theorem dX9_step_22 : decode cX9_step 22 = .ok (.bipush (-2), 2) := by decide +kernel
theorem dX9_step_24 : decode cX9_step 24 = .ok (.ireturn, 1) := by decide +kernel
theorem dX9_step_25 : decode cX9_step 25 = .ok (.iconst 0, 1) := by decide +kernel
theorem dX9_step_26 : decode cX9_step 26 = .ok (.istore_n 2, 1) := by decide +kernel
theorem dX9_step_27 : decode cX9_step 27 = .ok (.iload_n 2, 1) := by decide +kernel
theorem dX9_step_28 : decode cX9_step 28 = .ok (.iload_n 1, 1) := by decide +kernel
theorem dX9_step_29 : decode cX9_step 29 = .ok (.if_icmp .ge 21, 3) := by decide +kernel
theorem dX9_step_32 : decode cX9_step 32 = .ok (.aload_n 0, 1) := by decide +kernel
theorem dX9_step_33 : decode cX9_step 33 = .ok (.getfield 94, 3) := by decide +kernel
theorem dX9_step_36 : decode cX9_step 36 = .ok (.iconst 1, 1) := by decide +kernel
theorem dX9_step_37 : decode cX9_step 37 = .ok (.if_icmp .ne 13, 3) := by decide +kernel
theorem dX9_step_40 : decode cX9_step 40 = .ok (.aload_n 0, 1) := by decide +kernel
theorem dX9_step_41 : decode cX9_step 41 = .ok (.invokevirtual 122, 3) := by decide +kernel
theorem dX9_step_44 : decode cX9_step 44 = .ok (.iinc 2 1, 3) := by decide +kernel
theorem dX9_step_47 : decode cX9_step 47 = .ok (.goto (-20), 3) := by decide +kernel
theorem dX9_step_50 : decode cX9_step 50 = .ok (.iload_n 2, 1) := by decide +kernel
theorem dX9_step_51 : decode cX9_step 51 = .ok (.ireturn, 1) := by decide +kernel
theorem dX9_steps_0 : decode cX9_steps 0 = .ok (.aload_n 0, 1) := by decide +kernel
theorem dX9_steps_1 : decode cX9_steps 1 = .ok (.getfield 24, 3) := by decide +kernel
theorem dX9_steps_4 : decode cX9_steps 4 = .ok (.iconst 1, 1) := by decide +kernel
theorem dX9_steps_5 : decode cX9_steps 5 = .ok (.dup2, 1) := by decide +kernel
theorem dX9_steps_6 : decode cX9_steps 6 = .ok (.iaload, 1) := by decide +kernel
theorem dX9_steps_7 : decode cX9_steps 7 = .ok (.iconst 1, 1) := by decide +kernel
theorem dX9_steps_8 : decode cX9_steps 8 = .ok (.iadd, 1) := by decide +kernel
theorem dX9_steps_9 : decode cX9_steps 9 = .ok (.iastore, 1) := by decide +kernel
theorem dX9_steps_10 : decode cX9_steps 10 = .ok (.aload_n 0, 1) := by decide +kernel
theorem dX9_steps_11 : decode cX9_steps 11 = .ok (.getfield 115, 3) := by decide +kernel
theorem dX9_steps_14 : decode cX9_steps 14 = .ok (.ifCond .eq 21, 3) := by decide +kernel
theorem dX9_steps_17 : decode cX9_steps 17 = .ok (.aload_n 0, 1) := by decide +kernel
theorem dX9_steps_18 : decode cX9_steps 18 = .ok (.getfield 125, 3) := by decide +kernel
theorem dX9_steps_21 : decode cX9_steps 21 = .ok (.ifCond .le 14, 3) := by decide +kernel
theorem dX9_steps_24 : decode cX9_steps 24 = .ok (.aload_n 0, 1) := by decide +kernel
theorem dX9_steps_25 : decode cX9_steps 25 = .ok (.dup, 1) := by decide +kernel
theorem dX9_steps_26 : decode cX9_steps 26 = .ok (.getfield 125, 3) := by decide +kernel
theorem dX9_steps_29 : decode cX9_steps 29 = .ok (.iconst 1, 1) := by decide +kernel
theorem dX9_steps_30 : decode cX9_steps 30 = .ok (.isub, 1) := by decide +kernel
theorem dX9_steps_31 : decode cX9_steps 31 = .ok (.putfield 125, 3) := by decide +kernel
theorem dX9_steps_34 : decode cX9_steps 34 = .ok (.return_, 1) := by decide +kernel
theorem dX9_steps_35 : decode cX9_steps 35 = .ok (.aload_n 0, 1) := by decide +kernel
theorem dX9_steps_36 : decode cX9_steps 36 = .ok (.getfield 115, 3) := by decide +kernel
theorem dX9_steps_39 : decode cX9_steps 39 = .ok (.ifCond .ne 7, 3) := by decide +kernel
theorem dX9_steps_42 : decode cX9_steps 42 = .ok (.aload_n 0, 1) := by decide +kernel
theorem dX9_steps_43 : decode cX9_steps 43 = .ok (.invokevirtual 128, 3) := by decide +kernel
theorem dX9_steps_46 : decode cX9_steps 46 = .ok (.aload_n 0, 1) := by decide +kernel
theorem dX9_steps_47 : decode cX9_steps 47 = .ok (.getfield 131, 3) := by decide +kernel
theorem dX9_steps_50 : decode cX9_steps 50 = .ok (.iconst 2, 1) := by decide +kernel
theorem dX9_steps_51 : decode cX9_steps 51 = .ok (.if_icmp .ne 19, 3) := by decide +kernel
theorem dX9_steps_54 : decode cX9_steps 54 = .ok (.aload_n 0, 1) := by decide +kernel
theorem dX9_steps_55 : decode cX9_steps 55 = .ok (.getfield 24, 3) := by decide +kernel
theorem dX9_steps_58 : decode cX9_steps 58 = .ok (.bipush 12, 2) := by decide +kernel
theorem dX9_steps_60 : decode cX9_steps 60 = .ok (.aload_n 0, 1) := by decide +kernel
theorem dX9_steps_61 : decode cX9_steps 61 = .ok (.getfield 134, 3) := by decide +kernel
theorem dX9_steps_64 : decode cX9_steps 64 = .ok (.iastore, 1) := by decide +kernel
theorem dX9_steps_65 : decode cX9_steps 65 = .ok (.aload_n 0, 1) := by decide +kernel
theorem dX9_steps_66 : decode cX9_steps 66 = .ok (.iconst 0, 1) := by decide +kernel
theorem dX9_steps_67 : decode cX9_steps 67 = .ok (.putfield 119, 3) := by decide +kernel
theorem dX9_steps_70 : decode cX9_steps 70 = .ok (.aload_n 0, 1) := by decide +kernel
theorem dX9_steps_71 : decode cX9_steps 71 = .ok (.getfield 27, 3) := by decide +kernel
theorem dX9_steps_74 : decode cX9_steps 74 = .ok (.aload_n 0, 1) := by decide +kernel
theorem dX9_steps_75 : decode cX9_steps 75 = .ok (.getfield 137, 3) := by decide +kernel
theorem dX9_steps_78 : decode cX9_steps 78 = .ok (.dup2, 1) := by decide +kernel
theorem dX9_steps_79 : decode cX9_steps 79 = .ok (.laload, 1) := by decide +kernel
theorem dX9_steps_80 : decode cX9_steps 80 = .ok (.aload_n 0, 1) := by decide +kernel
theorem dX9_steps_81 : decode cX9_steps 81 = .ok (.getfield 140, 3) := by decide +kernel
theorem dX9_steps_84 : decode cX9_steps 84 = .ok (.i2l, 1) := by decide +kernel
theorem dX9_steps_85 : decode cX9_steps 85 = .ok (.ladd, 1) := by decide +kernel
theorem dX9_steps_86 : decode cX9_steps 86 = .ok (.lastore, 1) := by decide +kernel
theorem dX9_steps_87 : decode cX9_steps 87 = .ok (.aload_n 0, 1) := by decide +kernel
theorem dX9_steps_88 : decode cX9_steps 88 = .ok (.getfield 24, 3) := by decide +kernel
theorem dX9_steps_91 : decode cX9_steps 91 = .ok (.iconst 2, 1) := by decide +kernel
theorem dX9_steps_92 : decode cX9_steps 92 = .ok (.dup2, 1) := by decide +kernel
theorem dX9_steps_93 : decode cX9_steps 93 = .ok (.iaload, 1) := by decide +kernel
theorem dX9_steps_94 : decode cX9_steps 94 = .ok (.iconst 1, 1) := by decide +kernel
theorem dX9_steps_95 : decode cX9_steps 95 = .ok (.iadd, 1) := by decide +kernel
theorem dX9_steps_96 : decode cX9_steps 96 = .ok (.iastore, 1) := by decide +kernel
theorem dX9_steps_97 : decode cX9_steps 97 = .ok (.aload_n 0, 1) := by decide +kernel
theorem dX9_steps_98 : decode cX9_steps 98 = .ok (.getfield 24, 3) := by decide +kernel
theorem dX9_steps_101 : decode cX9_steps 101 = .ok (.bipush 14, 2) := by decide +kernel
theorem dX9_steps_103 : decode cX9_steps 103 = .ok (.aload_n 0, 1) := by decide +kernel
theorem dX9_steps_104 : decode cX9_steps 104 = .ok (.getfield 131, 3) := by decide +kernel
theorem dX9_steps_107 : decode cX9_steps 107 = .ok (.iastore, 1) := by decide +kernel
theorem dX9_steps_108 : decode cX9_steps 108 = .ok (.aload_n 0, 1) := by decide +kernel
theorem dX9_steps_109 : decode cX9_steps 109 = .ok (.aload_n 0, 1) := by decide +kernel
theorem dX9_steps_110 : decode cX9_steps 110 = .ok (.invokevirtual 143, 3) := by decide +kernel
theorem dX9_steps_113 : decode cX9_steps 113 = .ok (.putfield 115, 3) := by decide +kernel
theorem dX9_steps_116 : decode cX9_steps 116 = .ok (.aload_n 0, 1) := by decide +kernel
theorem dX9_steps_117 : decode cX9_steps 117 = .ok (.getfield 115, 3) := by decide +kernel
theorem dX9_steps_120 : decode cX9_steps 120 = .ok (.ifCond .eq 19, 3) := by decide +kernel
theorem dX9_steps_123 : decode cX9_steps 123 = .ok (.aload_n 0, 1) := by decide +kernel
theorem dX9_steps_124 : decode cX9_steps 124 = .ok (.getfield 24, 3) := by decide +kernel
theorem dX9_steps_127 : decode cX9_steps 127 = .ok (.iconst 3, 1) := by decide +kernel
theorem dX9_steps_128 : decode cX9_steps 128 = .ok (.dup2, 1) := by decide +kernel
theorem dX9_steps_129 : decode cX9_steps 129 = .ok (.iaload, 1) := by decide +kernel
theorem dX9_steps_130 : decode cX9_steps 130 = .ok (.iconst 1, 1) := by decide +kernel
theorem dX9_steps_131 : decode cX9_steps 131 = .ok (.iadd, 1) := by decide +kernel
theorem dX9_steps_132 : decode cX9_steps 132 = .ok (.iastore, 1) := by decide +kernel
theorem dX9_steps_133 : decode cX9_steps 133 = .ok (.aload_n 0, 1) := by decide +kernel
theorem dX9_steps_134 : decode cX9_steps 134 = .ok (.iconst 2, 1) := by decide +kernel
theorem dX9_steps_135 : decode cX9_steps 135 = .ok (.putfield 125, 3) := by decide +kernel
theorem dX9_steps_138 : decode cX9_steps 138 = .ok (.return_, 1) := by decide +kernel
theorem dX9_steps_139 : decode cX9_steps 139 = .ok (.aload_n 0, 1) := by decide +kernel
theorem dX9_steps_140 : decode cX9_steps 140 = .ok (.invokevirtual 147, 3) := by decide +kernel
theorem dX9_steps_143 : decode cX9_steps 143 = .ok (.aload_n 0, 1) := by decide +kernel
theorem dX9_steps_144 : decode cX9_steps 144 = .ok (.getfield 109, 3) := by decide +kernel
theorem dX9_steps_147 : decode cX9_steps 147 = .ok (.ifCond .ne 23, 3) := by decide +kernel
theorem dX9_steps_150 : decode cX9_steps 150 = .ok (.aload_n 0, 1) := by decide +kernel
theorem dX9_steps_151 : decode cX9_steps 151 = .ok (.getfield 106, 3) := by decide +kernel
theorem dX9_steps_154 : decode cX9_steps 154 = .ok (.ifCond .ne 16, 3) := by decide +kernel
theorem dX9_steps_157 : decode cX9_steps 157 = .ok (.aload_n 0, 1) := by decide +kernel
theorem dX9_steps_158 : decode cX9_steps 158 = .ok (.invokevirtual 150, 3) := by decide +kernel
theorem dX9_steps_161 : decode cX9_steps 161 = .ok (.bipush (-2), 2) := by decide +kernel
theorem dX9_steps_163 : decode cX9_steps 163 = .ok (.if_icmp .ne 7, 3) := by decide +kernel
theorem dX9_steps_166 : decode cX9_steps 166 = .ok (.aload_n 0, 1) := by decide +kernel
theorem dX9_steps_167 : decode cX9_steps 167 = .ok (.invokevirtual 154, 3) := by decide +kernel
theorem dX9_steps_170 : decode cX9_steps 170 = .ok (.return_, 1) := by decide +kernel
theorem dX9_ends_0 : decode cX9_ends 0 = .ok (.aload_n 0, 1) := by decide +kernel
theorem dX9_ends_1 : decode cX9_ends 1 = .ok (.iconst 2, 1) := by decide +kernel
theorem dX9_ends_2 : decode cX9_ends 2 = .ok (.putfield 94, 3) := by decide +kernel
theorem dX9_ends_5 : decode cX9_ends 5 = .ok (.aload_n 0, 1) := by decide +kernel
theorem dX9_ends_6 : decode cX9_ends 6 = .ok (.iconst 0, 1) := by decide +kernel
theorem dX9_ends_7 : decode cX9_ends 7 = .ok (.putfield 119, 3) := by decide +kernel
theorem dX9_ends_10 : decode cX9_ends 10 = .ok (.iconst 0, 1) := by decide +kernel
theorem dX9_ends_11 : decode cX9_ends 11 = .ok (.istore_n 1, 1) := by decide +kernel
theorem dX9_ends_12 : decode cX9_ends 12 = .ok (.iload_n 1, 1) := by decide +kernel
theorem dX9_ends_13 : decode cX9_ends 13 = .ok (.bipush 8, 2) := by decide +kernel
theorem dX9_ends_15 : decode cX9_ends 15 = .ok (.if_icmp .ge 51, 3) := by decide +kernel
theorem dX9_ends_18 : decode cX9_ends 18 = .ok (.aload_n 0, 1) := by decide +kernel
theorem dX9_ends_19 : decode cX9_ends 19 = .ok (.getfield 13, 3) := by decide +kernel
theorem dX9_ends_22 : decode cX9_ends 22 = .ok (.bipush 8, 2) := by decide +kernel
theorem dX9_ends_24 : decode cX9_ends 24 = .ok (.aload_n 0, 1) := by decide +kernel
theorem dX9_ends_25 : decode cX9_ends 25 = .ok (.invokevirtual 157, 3) := by decide +kernel
theorem dX9_ends_28 : decode cX9_ends 28 = .ok (.imul, 1) := by decide +kernel
theorem dX9_ends_29 : decode cX9_ends 29 = .ok (.iload_n 1, 1) := by decide +kernel
theorem dX9_ends_30 : decode cX9_ends 30 = .ok (.iadd, 1) := by decide +kernel
theorem dX9_ends_31 : decode cX9_ends 31 = .ok (.aload_n 0, 1) := by decide +kernel
theorem dX9_ends_32 : decode cX9_ends 32 = .ok (.getfield 37, 3) := by decide +kernel
theorem dX9_ends_35 : decode cX9_ends 35 = .ok (.iload_n 1, 1) := by decide +kernel
theorem dX9_ends_36 : decode cX9_ends 36 = .ok (.baload, 1) := by decide +kernel
theorem dX9_ends_37 : decode cX9_ends 37 = .ok (.ifCond .eq 8, 3) := by decide +kernel
theorem dX9_ends_40 : decode cX9_ends 40 = .ok (.bipush (-2), 2) := by decide +kernel
theorem dX9_ends_42 : decode cX9_ends 42 = .ok (.goto 17, 3) := by decide +kernel
theorem dX9_ends_45 : decode cX9_ends 45 = .ok (.aload_n 0, 1) := by decide +kernel
theorem dX9_ends_46 : decode cX9_ends 46 = .ok (.getfield 13, 3) := by decide +kernel
theorem dX9_ends_49 : decode cX9_ends 49 = .ok (.bipush 8, 2) := by decide +kernel
theorem dX9_ends_51 : decode cX9_ends 51 = .ok (.aload_n 0, 1) := by decide +kernel
theorem dX9_ends_52 : decode cX9_ends 52 = .ok (.invokevirtual 157, 3) := by decide +kernel
theorem dX9_ends_55 : decode cX9_ends 55 = .ok (.imul, 1) := by decide +kernel
theorem dX9_ends_56 : decode cX9_ends 56 = .ok (.iload_n 1, 1) := by decide +kernel
theorem dX9_ends_57 : decode cX9_ends 57 = .ok (.iadd, 1) := by decide +kernel
theorem dX9_ends_58 : decode cX9_ends 58 = .ok (.iaload, 1) := by decide +kernel
theorem dX9_ends_59 : decode cX9_ends 59 = .ok (.iastore, 1) := by decide +kernel
theorem dX9_ends_60 : decode cX9_ends 60 = .ok (.iinc 1 1, 3) := by decide +kernel
theorem dX9_ends_63 : decode cX9_ends 63 = .ok (.goto (-51), 3) := by decide +kernel
theorem dX9_ends_66 : decode cX9_ends 66 = .ok (.return_, 1) := by decide +kernel
theorem dX9_isToLose_0 : decode cX9_isToLose 0 = .ok (.iconst 0, 1) := by decide +kernel
theorem dX9_isToLose_1 : decode cX9_isToLose 1 = .ok (.istore_n 1, 1) := by decide +kernel
theorem dX9_isToLose_2 : decode cX9_isToLose 2 = .ok (.iconst 0, 1) := by decide +kernel
theorem dX9_isToLose_3 : decode cX9_isToLose 3 = .ok (.istore_n 2, 1) := by decide +kernel
theorem dX9_isToLose_4 : decode cX9_isToLose 4 = .ok (.iconst 0, 1) := by decide +kernel
theorem dX9_isToLose_5 : decode cX9_isToLose 5 = .ok (.istore_n 3, 1) := by decide +kernel
theorem dX9_isToLose_6 : decode cX9_isToLose 6 = .ok (.iload_n 3, 1) := by decide +kernel
theorem dX9_isToLose_7 : decode cX9_isToLose 7 = .ok (.aload_n 0, 1) := by decide +kernel
theorem dX9_isToLose_8 : decode cX9_isToLose 8 = .ok (.getfield 160, 3) := by decide +kernel
theorem dX9_isToLose_11 : decode cX9_isToLose 11 = .ok (.if_icmp .ge 41, 3) := by decide +kernel
theorem dX9_isToLose_14 : decode cX9_isToLose 14 = .ok (.aload_n 0, 1) := by decide +kernel
theorem dX9_isToLose_15 : decode cX9_isToLose 15 = .ok (.getfield 58, 3) := by decide +kernel
theorem dX9_isToLose_18 : decode cX9_isToLose 18 = .ok (.iload_n 3, 1) := by decide +kernel
theorem dX9_isToLose_19 : decode cX9_isToLose 19 = .ok (.iaload, 1) := by decide +kernel
theorem dX9_isToLose_20 : decode cX9_isToLose 20 = .ok (.iconst 1, 1) := by decide +kernel
theorem dX9_isToLose_21 : decode cX9_isToLose 21 = .ok (.if_icmp .ne 8, 3) := by decide +kernel
theorem dX9_isToLose_24 : decode cX9_isToLose 24 = .ok (.iconst 1, 1) := by decide +kernel
theorem dX9_isToLose_25 : decode cX9_isToLose 25 = .ok (.istore_n 1, 1) := by decide +kernel
theorem dX9_isToLose_26 : decode cX9_isToLose 26 = .ok (.goto 20, 3) := by decide +kernel
theorem dX9_isToLose_29 : decode cX9_isToLose 29 = .ok (.aload_n 0, 1) := by decide +kernel
theorem dX9_isToLose_30 : decode cX9_isToLose 30 = .ok (.getfield 58, 3) := by decide +kernel
theorem dX9_isToLose_33 : decode cX9_isToLose 33 = .ok (.iload_n 2, 1) := by decide +kernel
theorem dX9_isToLose_34 : decode cX9_isToLose 34 = .ok (.aload_n 0, 1) := by decide +kernel
theorem dX9_isToLose_35 : decode cX9_isToLose 35 = .ok (.getfield 58, 3) := by decide +kernel
theorem dX9_isToLose_38 : decode cX9_isToLose 38 = .ok (.iload_n 3, 1) := by decide +kernel
theorem dX9_isToLose_39 : decode cX9_isToLose 39 = .ok (.iaload, 1) := by decide +kernel
theorem dX9_isToLose_40 : decode cX9_isToLose 40 = .ok (.iconst 1, 1) := by decide +kernel
theorem dX9_isToLose_41 : decode cX9_isToLose 41 = .ok (.isub, 1) := by decide +kernel
theorem dX9_isToLose_42 : decode cX9_isToLose 42 = .ok (.iastore, 1) := by decide +kernel
theorem dX9_isToLose_43 : decode cX9_isToLose 43 = .ok (.iinc 2 1, 3) := by decide +kernel
theorem dX9_isToLose_46 : decode cX9_isToLose 46 = .ok (.iinc 3 1, 3) := by decide +kernel
theorem dX9_isToLose_49 : decode cX9_isToLose 49 = .ok (.goto (-43), 3) := by decide +kernel
theorem dX9_isToLose_52 : decode cX9_isToLose 52 = .ok (.aload_n 0, 1) := by decide +kernel
theorem dX9_isToLose_53 : decode cX9_isToLose 53 = .ok (.iload_n 2, 1) := by decide +kernel
theorem dX9_isToLose_54 : decode cX9_isToLose 54 = .ok (.putfield 160, 3) := by decide +kernel
theorem dX9_isToLose_57 : decode cX9_isToLose 57 = .ok (.iload_n 1, 1) := by decide +kernel
theorem dX9_isToLose_58 : decode cX9_isToLose 58 = .ok (.ireturn, 1) := by decide +kernel
theorem dX9_leastToDo_0 : decode cX9_leastToDo 0 = .ok (.iconst 0, 1) := by decide +kernel
theorem dX9_leastToDo_1 : decode cX9_leastToDo 1 = .ok (.istore_n 1, 1) := by decide +kernel
theorem dX9_leastToDo_2 : decode cX9_leastToDo 2 = .ok (.iload_n 1, 1) := by decide +kernel
theorem dX9_leastToDo_3 : decode cX9_leastToDo 3 = .ok (.bipush 8, 2) := by decide +kernel
theorem dX9_leastToDo_5 : decode cX9_leastToDo 5 = .ok (.if_icmp .ge 20, 3) := by decide +kernel
theorem dX9_leastToDo_8 : decode cX9_leastToDo 8 = .ok (.aload_n 0, 1) := by decide +kernel
theorem dX9_leastToDo_9 : decode cX9_leastToDo 9 = .ok (.getfield 33, 3) := by decide +kernel
theorem dX9_leastToDo_12 : decode cX9_leastToDo 12 = .ok (.iload_n 1, 1) := by decide +kernel
theorem dX9_leastToDo_13 : decode cX9_leastToDo 13 = .ok (.baload, 1) := by decide +kernel
theorem dX9_leastToDo_14 : decode cX9_leastToDo 14 = .ok (.ifCond .eq 5, 3) := by decide +kernel
theorem dX9_leastToDo_17 : decode cX9_leastToDo 17 = .ok (.iload_n 1, 1) := by decide +kernel
theorem dX9_leastToDo_18 : decode cX9_leastToDo 18 = .ok (.ireturn, 1) := by decide +kernel
theorem dX9_leastToDo_19 : decode cX9_leastToDo 19 = .ok (.iinc 1 1, 3) := by decide +kernel
theorem dX9_leastToDo_22 : decode cX9_leastToDo 22 = .ok (.goto (-20), 3) := by decide +kernel
theorem dX9_leastToDo_25 : decode cX9_leastToDo 25 = .ok (.bipush (-2), 2) := by decide +kernel
theorem dX9_leastToDo_27 : decode cX9_leastToDo 27 = .ok (.ireturn, 1) := by decide +kernel
theorem dX9_message_0 : decode cX9_message 0 = .ok (.aload_n 0, 1) := by decide +kernel
theorem dX9_message_1 : decode cX9_message 1 = .ok (.iload_n 1, 1) := by decide +kernel
theorem dX9_message_2 : decode cX9_message 2 = .ok (.putfield 137, 3) := by decide +kernel
theorem dX9_message_5 : decode cX9_message 5 = .ok (.aload_n 0, 1) := by decide +kernel
theorem dX9_message_6 : decode cX9_message 6 = .ok (.iload_n 2, 1) := by decide +kernel
theorem dX9_message_7 : decode cX9_message 7 = .ok (.putfield 131, 3) := by decide +kernel
theorem dX9_message_10 : decode cX9_message 10 = .ok (.aload_n 0, 1) := by decide +kernel
theorem dX9_message_11 : decode cX9_message 11 = .ok (.iload_n 3, 1) := by decide +kernel
theorem dX9_message_12 : decode cX9_message 12 = .ok (.putfield 140, 3) := by decide +kernel
theorem dX9_message_15 : decode cX9_message 15 = .ok (.return_, 1) := by decide +kernel
theorem dX9_makes_0 : decode cX9_makes 0 = .ok (.aload_n 0, 1) := by decide +kernel
theorem dX9_makes_1 : decode cX9_makes 1 = .ok (.getfield 109, 3) := by decide +kernel
theorem dX9_makes_4 : decode cX9_makes 4 = .ok (.iconst 1, 1) := by decide +kernel
theorem dX9_makes_5 : decode cX9_makes 5 = .ok (.if_icmp .ne 33, 3) := by decide +kernel
theorem dX9_makes_8 : decode cX9_makes 8 = .ok (.aload_n 0, 1) := by decide +kernel
theorem dX9_makes_9 : decode cX9_makes 9 = .ok (.aload_n 0, 1) := by decide +kernel
theorem dX9_makes_10 : decode cX9_makes 10 = .ok (.getfield 90, 3) := by decide +kernel
theorem dX9_makes_13 : decode cX9_makes 13 = .ok (.iconst 1, 1) := by decide +kernel
theorem dX9_makes_14 : decode cX9_makes 14 = .ok (.bipush 10, 2) := by decide +kernel
theorem dX9_makes_16 : decode cX9_makes 16 = .ok (.invokevirtual 163, 3) := by decide +kernel
theorem dX9_makes_19 : decode cX9_makes 19 = .ok (.aload_n 0, 1) := by decide +kernel
theorem dX9_makes_20 : decode cX9_makes 20 = .ok (.aload_n 0, 1) := by decide +kernel
theorem dX9_makes_21 : decode cX9_makes 21 = .ok (.aload_n 0, 1) := by decide +kernel
theorem dX9_makes_22 : decode cX9_makes 22 = .ok (.getfield 90, 3) := by decide +kernel
theorem dX9_makes_25 : decode cX9_makes 25 = .ok (.aload_n 0, 1) := by decide +kernel
theorem dX9_makes_26 : decode cX9_makes 26 = .ok (.getfield 134, 3) := by decide +kernel
theorem dX9_makes_29 : decode cX9_makes 29 = .ok (.invokevirtual 167, 3) := by decide +kernel
theorem dX9_makes_32 : decode cX9_makes 32 = .ok (.putfield 171, 3) := by decide +kernel
theorem dX9_makes_35 : decode cX9_makes 35 = .ok (.goto 87, 3) := by decide +kernel
theorem dX9_makes_38 : decode cX9_makes 38 = .ok (.aload_n 0, 1) := by decide +kernel
theorem dX9_makes_39 : decode cX9_makes 39 = .ok (.getfield 109, 3) := by decide +kernel
theorem dX9_makes_42 : decode cX9_makes 42 = .ok (.iconst 2, 1) := by decide +kernel
theorem dX9_makes_43 : decode cX9_makes 43 = .ok (.if_icmp .ne 10, 3) := by decide +kernel
theorem dX9_makes_46 : decode cX9_makes 46 = .ok (.aload_n 0, 1) := by decide +kernel
theorem dX9_makes_47 : decode cX9_makes 47 = .ok (.invokevirtual 175, 3) := by decide +kernel
theorem dX9_makes_50 : decode cX9_makes 50 = .ok (.goto 72, 3) := by decide +kernel
theorem dX9_makes_53 : decode cX9_makes 53 = .ok (.aload_n 0, 1) := by decide +kernel
theorem dX9_makes_54 : decode cX9_makes 54 = .ok (.getfield 109, 3) := by decide +kernel
theorem dX9_makes_57 : decode cX9_makes 57 = .ok (.iconst 3, 1) := by decide +kernel
theorem dX9_makes_58 : decode cX9_makes 58 = .ok (.if_icmp .ne 17, 3) := by decide +kernel
theorem dX9_makes_61 : decode cX9_makes 61 = .ok (.aload_n 0, 1) := by decide +kernel
theorem dX9_makes_62 : decode cX9_makes 62 = .ok (.aload_n 0, 1) := by decide +kernel
theorem dX9_makes_63 : decode cX9_makes 63 = .ok (.invokevirtual 157, 3) := by decide +kernel
theorem dX9_makes_66 : decode cX9_makes 66 = .ok (.bipush 7, 2) := by decide +kernel
theorem dX9_makes_68 : decode cX9_makes 68 = .ok (.iconst 1, 1) := by decide +kernel
theorem dX9_makes_69 : decode cX9_makes 69 = .ok (.invokevirtual 163, 3) := by decide +kernel
theorem dX9_makes_72 : decode cX9_makes 72 = .ok (.goto 50, 3) := by decide +kernel
theorem dX9_makes_75 : decode cX9_makes 75 = .ok (.aload_n 0, 1) := by decide +kernel
theorem dX9_makes_76 : decode cX9_makes 76 = .ok (.getfield 106, 3) := by decide +kernel
theorem dX9_makes_79 : decode cX9_makes 79 = .ok (.ifCond .le 39, 3) := by decide +kernel
theorem dX9_makes_82 : decode cX9_makes 82 = .ok (.aload_n 0, 1) := by decide +kernel
theorem dX9_makes_83 : decode cX9_makes 83 = .ok (.dup, 1) := by decide +kernel
theorem dX9_makes_84 : decode cX9_makes 84 = .ok (.getfield 106, 3) := by decide +kernel
theorem dX9_makes_87 : decode cX9_makes 87 = .ok (.iconst 1, 1) := by decide +kernel
theorem dX9_makes_88 : decode cX9_makes 88 = .ok (.isub, 1) := by decide +kernel
theorem dX9_makes_89 : decode cX9_makes 89 = .ok (.putfield 106, 3) := by decide +kernel
theorem dX9_makes_92 : decode cX9_makes 92 = .ok (.aload_n 0, 1) := by decide +kernel
theorem dX9_makes_93 : decode cX9_makes 93 = .ok (.aload_n 0, 1) := by decide +kernel
theorem dX9_makes_94 : decode cX9_makes 94 = .ok (.getfield 30, 3) := by decide +kernel
theorem dX9_makes_97 : decode cX9_makes 97 = .ok (.aload_n 0, 1) := by decide +kernel
theorem dX9_makes_98 : decode cX9_makes 98 = .ok (.getfield 106, 3) := by decide +kernel
theorem dX9_makes_101 : decode cX9_makes 101 = .ok (.iaload, 1) := by decide +kernel
theorem dX9_makes_102 : decode cX9_makes 102 = .ok (.putfield 134, 3) := by decide +kernel
theorem dX9_makes_105 : decode cX9_makes 105 = .ok (.aload_n 0, 1) := by decide +kernel
theorem dX9_makes_106 : decode cX9_makes 106 = .ok (.aload_n 0, 1) := by decide +kernel
theorem dX9_makes_107 : decode cX9_makes 107 = .ok (.invokevirtual 157, 3) := by decide +kernel
theorem dX9_makes_110 : decode cX9_makes 110 = .ok (.iconst 0, 1) := by decide +kernel
theorem dX9_makes_111 : decode cX9_makes 111 = .ok (.iconst 2, 1) := by decide +kernel
theorem dX9_makes_112 : decode cX9_makes 112 = .ok (.invokevirtual 163, 3) := by decide +kernel
theorem dX9_makes_115 : decode cX9_makes 115 = .ok (.goto 7, 3) := by decide +kernel
theorem dX9_makes_118 : decode cX9_makes 118 = .ok (.aload_n 0, 1) := by decide +kernel
theorem dX9_makes_119 : decode cX9_makes 119 = .ok (.invokevirtual 178, 3) := by decide +kernel
theorem dX9_makes_122 : decode cX9_makes 122 = .ok (.return_, 1) := by decide +kernel
theorem dX9_makesSums_0 : decode cX9_makesSums 0 = .ok (.aload_n 0, 1) := by decide +kernel
theorem dX9_makesSums_1 : decode cX9_makesSums 1 = .ok (.getfield 112, 3) := by decide +kernel
theorem dX9_makesSums_4 : decode cX9_makesSums 4 = .ok (.bipush (-2), 2) := by decide +kernel
theorem dX9_makesSums_6 : decode cX9_makesSums 6 = .ok (.if_icmp .ne 24, 3) := by decide +kernel
theorem dX9_makesSums_9 : decode cX9_makesSums 9 = .ok (.aload_n 0, 1) := by decide +kernel
theorem dX9_makesSums_10 : decode cX9_makesSums 10 = .ok (.aload_n 0, 1) := by decide +kernel
theorem dX9_makesSums_11 : decode cX9_makesSums 11 = .ok (.invokevirtual 150, 3) := by decide +kernel
theorem dX9_makesSums_14 : decode cX9_makesSums 14 = .ok (.putfield 112, 3) := by decide +kernel
theorem dX9_makesSums_17 : decode cX9_makesSums 17 = .ok (.aload_n 0, 1) := by decide +kernel
theorem dX9_makesSums_18 : decode cX9_makesSums 18 = .ok (.iconst 0, 1) := by decide +kernel
theorem dX9_makesSums_19 : decode cX9_makesSums 19 = .ok (.putfield 181, 3) := by decide +kernel
theorem dX9_makesSums_22 : decode cX9_makesSums 22 = .ok (.aload_n 0, 1) := by decide +kernel
theorem dX9_makesSums_23 : decode cX9_makesSums 23 = .ok (.aload_n 0, 1) := by decide +kernel
theorem dX9_makesSums_24 : decode cX9_makesSums 24 = .ok (.getfield 103, 3) := by decide +kernel
theorem dX9_makesSums_27 : decode cX9_makesSums 27 = .ok (.putfield 184, 3) := by decide +kernel
theorem dX9_makesSums_30 : decode cX9_makesSums 30 = .ok (.bipush 8, 2) := by decide +kernel
theorem dX9_makesSums_32 : decode cX9_makesSums 32 = .ok (.aload_n 0, 1) := by decide +kernel
theorem dX9_makesSums_33 : decode cX9_makesSums 33 = .ok (.invokevirtual 157, 3) := by decide +kernel
theorem dX9_makesSums_36 : decode cX9_makesSums 36 = .ok (.imul, 1) := by decide +kernel
theorem dX9_makesSums_37 : decode cX9_makesSums 37 = .ok (.aload_n 0, 1) := by decide +kernel
theorem dX9_makesSums_38 : decode cX9_makesSums 38 = .ok (.getfield 112, 3) := by decide +kernel
theorem dX9_makesSums_41 : decode cX9_makesSums 41 = .ok (.iadd, 1) := by decide +kernel
theorem dX9_makesSums_42 : decode cX9_makesSums 42 = .ok (.istore_n 1, 1) := by decide +kernel
theorem dX9_makesSums_43 : decode cX9_makesSums 43 = .ok (.aload_n 0, 1) := by decide +kernel
theorem dX9_makesSums_44 : decode cX9_makesSums 44 = .ok (.aload_n 0, 1) := by decide +kernel
theorem dX9_makesSums_45 : decode cX9_makesSums 45 = .ok (.iload_n 1, 1) := by decide +kernel
theorem dX9_makesSums_46 : decode cX9_makesSums 46 = .ok (.invokevirtual 69, 3) := by decide +kernel
theorem dX9_makesSums_49 : decode cX9_makesSums 49 = .ok (.aload_n 0, 1) := by decide +kernel
theorem dX9_makesSums_50 : decode cX9_makesSums 50 = .ok (.getfield 97, 3) := by decide +kernel
theorem dX9_makesSums_53 : decode cX9_makesSums 53 = .ok (.idiv, 1) := by decide +kernel
theorem dX9_makesSums_54 : decode cX9_makesSums 54 = .ok (.putfield 187, 3) := by decide +kernel
theorem dX9_makesSums_57 : decode cX9_makesSums 57 = .ok (.iconst 0, 1) := by decide +kernel
theorem dX9_makesSums_58 : decode cX9_makesSums 58 = .ok (.istore_n 2, 1) := by decide +kernel
theorem dX9_makesSums_59 : decode cX9_makesSums 59 = .ok (.iload_n 2, 1) := by decide +kernel
theorem dX9_makesSums_60 : decode cX9_makesSums 60 = .ok (.aload_n 0, 1) := by decide +kernel
theorem dX9_makesSums_61 : decode cX9_makesSums 61 = .ok (.getfield 187, 3) := by decide +kernel
theorem dX9_makesSums_64 : decode cX9_makesSums 64 = .ok (.if_icmp .ge 71, 3) := by decide +kernel
theorem dX9_makesSums_67 : decode cX9_makesSums 67 = .ok (.aload_n 0, 1) := by decide +kernel
theorem dX9_makesSums_68 : decode cX9_makesSums 68 = .ok (.getfield 46, 3) := by decide +kernel
theorem dX9_makesSums_71 : decode cX9_makesSums 71 = .ok (.iload_n 2, 1) := by decide +kernel
theorem dX9_makesSums_72 : decode cX9_makesSums 72 = .ok (.aload_n 0, 1) := by decide +kernel
theorem dX9_makesSums_73 : decode cX9_makesSums 73 = .ok (.getfield 7, 3) := by decide +kernel
theorem dX9_makesSums_76 : decode cX9_makesSums 76 = .ok (.sipush 500, 3) := by decide +kernel
theorem dX9_makesSums_79 : decode cX9_makesSums 79 = .ok (.iload_n 1, 1) := by decide +kernel
theorem dX9_makesSums_80 : decode cX9_makesSums 80 = .ok (.imul, 1) := by decide +kernel
theorem dX9_makesSums_81 : decode cX9_makesSums 81 = .ok (.aload_n 0, 1) := by decide +kernel
theorem dX9_makesSums_82 : decode cX9_makesSums 82 = .ok (.getfield 97, 3) := by decide +kernel
theorem dX9_makesSums_85 : decode cX9_makesSums 85 = .ok (.iload_n 2, 1) := by decide +kernel
theorem dX9_makesSums_86 : decode cX9_makesSums 86 = .ok (.imul, 1) := by decide +kernel
theorem dX9_makesSums_87 : decode cX9_makesSums 87 = .ok (.iadd, 1) := by decide +kernel
theorem dX9_makesSums_88 : decode cX9_makesSums 88 = .ok (.aload_n 0, 1) := by decide +kernel
theorem dX9_makesSums_89 : decode cX9_makesSums 89 = .ok (.getfield 97, 3) := by decide +kernel
theorem dX9_makesSums_92 : decode cX9_makesSums 92 = .ok (.invokestatic 87, 3) := by decide +kernel
theorem dX9_makesSums_95 : decode cX9_makesSums 95 = .ok (.lastore, 1) := by decide +kernel
theorem dX9_makesSums_96 : decode cX9_makesSums 96 = .ok (.aload_n 0, 1) := by decide +kernel
theorem dX9_makesSums_97 : decode cX9_makesSums 97 = .ok (.getfield 49, 3) := by decide +kernel
theorem dX9_makesSums_100 : decode cX9_makesSums 100 = .ok (.iload_n 2, 1) := by decide +kernel
theorem dX9_makesSums_101 : decode cX9_makesSums 101 = .ok (.aload_n 0, 1) := by decide +kernel
theorem dX9_makesSums_102 : decode cX9_makesSums 102 = .ok (.getfield 7, 3) := by decide +kernel
theorem dX9_makesSums_105 : decode cX9_makesSums 105 = .ok (.sipush 500, 3) := by decide +kernel
theorem dX9_makesSums_108 : decode cX9_makesSums 108 = .ok (.iload_n 1, 1) := by decide +kernel
theorem dX9_makesSums_109 : decode cX9_makesSums 109 = .ok (.imul, 1) := by decide +kernel
theorem dX9_makesSums_110 : decode cX9_makesSums 110 = .ok (.aload_n 0, 1) := by decide +kernel
theorem dX9_makesSums_111 : decode cX9_makesSums 111 = .ok (.getfield 97, 3) := by decide +kernel
theorem dX9_makesSums_114 : decode cX9_makesSums 114 = .ok (.iload_n 2, 1) := by decide +kernel
theorem dX9_makesSums_115 : decode cX9_makesSums 115 = .ok (.imul, 1) := by decide +kernel
theorem dX9_makesSums_116 : decode cX9_makesSums 116 = .ok (.iadd, 1) := by decide +kernel
theorem dX9_makesSums_117 : decode cX9_makesSums 117 = .ok (.aload_n 0, 1) := by decide +kernel
theorem dX9_makesSums_118 : decode cX9_makesSums 118 = .ok (.getfield 97, 3) := by decide +kernel
theorem dX9_makesSums_121 : decode cX9_makesSums 121 = .ok (.aload_n 0, 1) := by decide +kernel
theorem dX9_makesSums_122 : decode cX9_makesSums 122 = .ok (.getfield 184, 3) := by decide +kernel
theorem dX9_makesSums_125 : decode cX9_makesSums 125 = .ok (.invokestatic 190, 3) := by decide +kernel
theorem dX9_makesSums_128 : decode cX9_makesSums 128 = .ok (.lastore, 1) := by decide +kernel
theorem dX9_makesSums_129 : decode cX9_makesSums 129 = .ok (.iinc 2 1, 3) := by decide +kernel
theorem dX9_makesSums_132 : decode cX9_makesSums 132 = .ok (.goto (-73), 3) := by decide +kernel
theorem dX9_makesSums_135 : decode cX9_makesSums 135 = .ok (.aload_n 0, 1) := by decide +kernel
theorem dX9_makesSums_136 : decode cX9_makesSums 136 = .ok (.aload_n 0, 1) := by decide +kernel
theorem dX9_makesSums_137 : decode cX9_makesSums 137 = .ok (.getfield 184, 3) := by decide +kernel
theorem dX9_makesSums_140 : decode cX9_makesSums 140 = .ok (.putfield 134, 3) := by decide +kernel
theorem dX9_makesSums_143 : decode cX9_makesSums 143 = .ok (.aload_n 0, 1) := by decide +kernel
theorem dX9_makesSums_144 : decode cX9_makesSums 144 = .ok (.aload_n 0, 1) := by decide +kernel
theorem dX9_makesSums_145 : decode cX9_makesSums 145 = .ok (.invokevirtual 157, 3) := by decide +kernel
theorem dX9_makesSums_148 : decode cX9_makesSums 148 = .ok (.iconst 2, 1) := by decide +kernel
theorem dX9_makesSums_149 : decode cX9_makesSums 149 = .ok (.bipush 6, 2) := by decide +kernel
theorem dX9_makesSums_151 : decode cX9_makesSums 151 = .ok (.iconst 4, 1) := by decide +kernel
theorem dX9_makesSums_152 : decode cX9_makesSums 152 = .ok (.aload_n 0, 1) := by decide +kernel
theorem dX9_makesSums_153 : decode cX9_makesSums 153 = .ok (.getfield 184, 3) := by decide +kernel
theorem dX9_makesSums_156 : decode cX9_makesSums 156 = .ok (.iadd, 1) := by decide +kernel
theorem dX9_makesSums_157 : decode cX9_makesSums 157 = .ok (.aload_n 0, 1) := by decide +kernel
theorem dX9_makesSums_158 : decode cX9_makesSums 158 = .ok (.getfield 187, 3) := by decide +kernel
theorem dX9_makesSums_161 : decode cX9_makesSums 161 = .ok (.imul, 1) := by decide +kernel
theorem dX9_makesSums_162 : decode cX9_makesSums 162 = .ok (.iadd, 1) := by decide +kernel
theorem dX9_makesSums_163 : decode cX9_makesSums 163 = .ok (.invokevirtual 163, 3) := by decide +kernel
theorem dX9_makesSums_166 : decode cX9_makesSums 166 = .ok (.return_, 1) := by decide +kernel
theorem dX9_makesOfFile_0 : decode cX9_makesOfFile 0 = .ok (.bipush 8, 2) := by decide +kernel
theorem dX9_makesOfFile_2 : decode cX9_makesOfFile 2 = .ok (.aload_n 0, 1) := by decide +kernel
theorem dX9_makesOfFile_3 : decode cX9_makesOfFile 3 = .ok (.getfield 90, 3) := by decide +kernel
theorem dX9_makesOfFile_6 : decode cX9_makesOfFile 6 = .ok (.imul, 1) := by decide +kernel
theorem dX9_makesOfFile_7 : decode cX9_makesOfFile 7 = .ok (.aload_n 0, 1) := by decide +kernel
theorem dX9_makesOfFile_8 : decode cX9_makesOfFile 8 = .ok (.getfield 112, 3) := by decide +kernel
theorem dX9_makesOfFile_11 : decode cX9_makesOfFile 11 = .ok (.iadd, 1) := by decide +kernel
theorem dX9_makesOfFile_12 : decode cX9_makesOfFile 12 = .ok (.istore_n 1, 1) := by decide +kernel
theorem dX9_makesOfFile_13 : decode cX9_makesOfFile 13 = .ok (.aload_n 0, 1) := by decide +kernel
theorem dX9_makesOfFile_14 : decode cX9_makesOfFile 14 = .ok (.getfield 194, 3) := by decide +kernel
theorem dX9_makesOfFile_17 : decode cX9_makesOfFile 17 = .ok (.ifCond .eq 25, 3) := by decide +kernel
theorem dX9_makesOfFile_20 : decode cX9_makesOfFile 20 = .ok (.aload_n 0, 1) := by decide +kernel
theorem dX9_makesOfFile_21 : decode cX9_makesOfFile 21 = .ok (.getfield 13, 3) := by decide +kernel
theorem dX9_makesOfFile_24 : decode cX9_makesOfFile 24 = .ok (.iload_n 1, 1) := by decide +kernel
theorem dX9_makesOfFile_25 : decode cX9_makesOfFile 25 = .ok (.iaload, 1) := by decide +kernel
theorem dX9_makesOfFile_26 : decode cX9_makesOfFile 26 = .ok (.bipush (-2), 2) := by decide +kernel
theorem dX9_makesOfFile_28 : decode cX9_makesOfFile 28 = .ok (.if_icmp .ne 14, 3) := by decide +kernel
theorem dX9_makesOfFile_31 : decode cX9_makesOfFile 31 = .ok (.aload_n 0, 1) := by decide +kernel
theorem dX9_makesOfFile_32 : decode cX9_makesOfFile 32 = .ok (.aload_n 0, 1) := by decide +kernel
theorem dX9_makesOfFile_33 : decode cX9_makesOfFile 33 = .ok (.getfield 90, 3) := by decide +kernel
theorem dX9_makesOfFile_36 : decode cX9_makesOfFile 36 = .ok (.iconst 3, 1) := by decide +kernel
theorem dX9_makesOfFile_37 : decode cX9_makesOfFile 37 = .ok (.iconst 1, 1) := by decide +kernel
theorem dX9_makesOfFile_38 : decode cX9_makesOfFile 38 = .ok (.invokevirtual 163, 3) := by decide +kernel
theorem dX9_makesOfFile_41 : decode cX9_makesOfFile 41 = .ok (.return_, 1) := by decide +kernel
theorem dX9_makesOfFile_42 : decode cX9_makesOfFile 42 = .ok (.aload_n 0, 1) := by decide +kernel
theorem dX9_makesOfFile_43 : decode cX9_makesOfFile 43 = .ok (.iconst 0, 1) := by decide +kernel
theorem dX9_makesOfFile_44 : decode cX9_makesOfFile 44 = .ok (.putfield 194, 3) := by decide +kernel
theorem dX9_makesOfFile_47 : decode cX9_makesOfFile 47 = .ok (.aload_n 0, 1) := by decide +kernel
theorem dX9_makesOfFile_48 : decode cX9_makesOfFile 48 = .ok (.getfield 197, 3) := by decide +kernel
theorem dX9_makesOfFile_51 : decode cX9_makesOfFile 51 = .ok (.aload_n 0, 1) := by decide +kernel
theorem dX9_makesOfFile_52 : decode cX9_makesOfFile 52 = .ok (.iload_n 1, 1) := by decide +kernel
theorem dX9_makesOfFile_53 : decode cX9_makesOfFile 53 = .ok (.invokevirtual 69, 3) := by decide +kernel
theorem dX9_makesOfFile_56 : decode cX9_makesOfFile 56 = .ok (.if_icmp .lt 37, 3) := by decide +kernel
theorem dX9_makesOfFile_59 : decode cX9_makesOfFile 59 = .ok (.aload_n 0, 1) := by decide +kernel
theorem dX9_makesOfFile_60 : decode cX9_makesOfFile 60 = .ok (.aload_n 0, 1) := by decide +kernel
theorem dX9_makesOfFile_61 : decode cX9_makesOfFile 61 = .ok (.getfield 7, 3) := by decide +kernel
theorem dX9_makesOfFile_64 : decode cX9_makesOfFile 64 = .ok (.sipush 500, 3) := by decide +kernel
theorem dX9_makesOfFile_67 : decode cX9_makesOfFile 67 = .ok (.iload_n 1, 1) := by decide +kernel
theorem dX9_makesOfFile_68 : decode cX9_makesOfFile 68 = .ok (.imul, 1) := by decide +kernel
theorem dX9_makesOfFile_69 : decode cX9_makesOfFile 69 = .ok (.aload_n 0, 1) := by decide +kernel
theorem dX9_makesOfFile_70 : decode cX9_makesOfFile 70 = .ok (.iload_n 1, 1) := by decide +kernel
theorem dX9_makesOfFile_71 : decode cX9_makesOfFile 71 = .ok (.invokevirtual 69, 3) := by decide +kernel
theorem dX9_makesOfFile_74 : decode cX9_makesOfFile 74 = .ok (.invokestatic 79, 3) := by decide +kernel
theorem dX9_makesOfFile_77 : decode cX9_makesOfFile 77 = .ok (.putfield 171, 3) := by decide +kernel
theorem dX9_makesOfFile_80 : decode cX9_makesOfFile 80 = .ok (.aload_n 0, 1) := by decide +kernel
theorem dX9_makesOfFile_81 : decode cX9_makesOfFile 81 = .ok (.aload_n 0, 1) := by decide +kernel
theorem dX9_makesOfFile_82 : decode cX9_makesOfFile 82 = .ok (.getfield 90, 3) := by decide +kernel
theorem dX9_makesOfFile_85 : decode cX9_makesOfFile 85 = .ok (.bipush 6, 2) := by decide +kernel
theorem dX9_makesOfFile_87 : decode cX9_makesOfFile 87 = .ok (.bipush 11, 2) := by decide +kernel
theorem dX9_makesOfFile_89 : decode cX9_makesOfFile 89 = .ok (.invokevirtual 163, 3) := by decide +kernel
theorem dX9_makesOfFile_92 : decode cX9_makesOfFile 92 = .ok (.return_, 1) := by decide +kernel
theorem dX9_makesOfFile_93 : decode cX9_makesOfFile 93 = .ok (.aload_n 0, 1) := by decide +kernel
theorem dX9_makesOfFile_94 : decode cX9_makesOfFile 94 = .ok (.iload_n 1, 1) := by decide +kernel
theorem dX9_makesOfFile_95 : decode cX9_makesOfFile 95 = .ok (.invokevirtual 200, 3) := by decide +kernel
theorem dX9_makesOfFile_98 : decode cX9_makesOfFile 98 = .ok (.istore_n 2, 1) := by decide +kernel
theorem dX9_makesOfFile_99 : decode cX9_makesOfFile 99 = .ok (.iload_n 2, 1) := by decide +kernel
theorem dX9_makesOfFile_100 : decode cX9_makesOfFile 100 = .ok (.bipush (-2), 2) := by decide +kernel
theorem dX9_makesOfFile_102 : decode cX9_makesOfFile 102 = .ok (.if_icmp .eq 32, 3) := by decide +kernel
theorem dX9_makesOfFile_105 : decode cX9_makesOfFile 105 = .ok (.aload_n 0, 1) := by decide +kernel
theorem dX9_makesOfFile_106 : decode cX9_makesOfFile 106 = .ok (.iload_n 2, 1) := by decide +kernel
theorem dX9_makesOfFile_107 : decode cX9_makesOfFile 107 = .ok (.putfield 134, 3) := by decide +kernel
theorem dX9_makesOfFile_110 : decode cX9_makesOfFile 110 = .ok (.aload_n 0, 1) := by decide +kernel
theorem dX9_makesOfFile_111 : decode cX9_makesOfFile 111 = .ok (.dup, 1) := by decide +kernel
theorem dX9_makesOfFile_112 : decode cX9_makesOfFile 112 = .ok (.getfield 197, 3) := by decide +kernel
theorem dX9_makesOfFile_115 : decode cX9_makesOfFile 115 = .ok (.aload_n 0, 1) := by decide +kernel
theorem dX9_makesOfFile_116 : decode cX9_makesOfFile 116 = .ok (.getfield 97, 3) := by decide +kernel
theorem dX9_makesOfFile_119 : decode cX9_makesOfFile 119 = .ok (.iadd, 1) := by decide +kernel
theorem dX9_makesOfFile_120 : decode cX9_makesOfFile 120 = .ok (.putfield 197, 3) := by decide +kernel
theorem dX9_makesOfFile_123 : decode cX9_makesOfFile 123 = .ok (.aload_n 0, 1) := by decide +kernel
theorem dX9_makesOfFile_124 : decode cX9_makesOfFile 124 = .ok (.aload_n 0, 1) := by decide +kernel
theorem dX9_makesOfFile_125 : decode cX9_makesOfFile 125 = .ok (.getfield 90, 3) := by decide +kernel
theorem dX9_makesOfFile_128 : decode cX9_makesOfFile 128 = .ok (.iconst 5, 1) := by decide +kernel
theorem dX9_makesOfFile_129 : decode cX9_makesOfFile 129 = .ok (.iconst 4, 1) := by decide +kernel
theorem dX9_makesOfFile_130 : decode cX9_makesOfFile 130 = .ok (.invokevirtual 163, 3) := by decide +kernel
theorem dX9_makesOfFile_133 : decode cX9_makesOfFile 133 = .ok (.return_, 1) := by decide +kernel
theorem dX9_makesOfFile_134 : decode cX9_makesOfFile 134 = .ok (.aload_n 0, 1) := by decide +kernel
theorem dX9_makesOfFile_135 : decode cX9_makesOfFile 135 = .ok (.iconst 0, 1) := by decide +kernel
theorem dX9_makesOfFile_136 : decode cX9_makesOfFile 136 = .ok (.putfield 203, 3) := by decide +kernel
theorem dX9_makesOfFile_139 : decode cX9_makesOfFile 139 = .ok (.iload_n 2, 1) := by decide +kernel
theorem dX9_makesOfFile_140 : decode cX9_makesOfFile 140 = .ok (.bipush (-2), 2) := by decide +kernel
theorem dX9_makesOfFile_142 : decode cX9_makesOfFile 142 = .ok (.if_icmp .ne 91, 3) := by decide +kernel
theorem dX9_makesOfFile_145 : decode cX9_makesOfFile 145 = .ok (.aload_n 0, 1) := by decide +kernel
theorem dX9_makesOfFile_146 : decode cX9_makesOfFile 146 = .ok (.getfield 203, 3) := by decide +kernel
theorem dX9_makesOfFile_149 : decode cX9_makesOfFile 149 = .ok (.bipush 16, 2) := by decide +kernel
theorem dX9_makesOfFile_151 : decode cX9_makesOfFile 151 = .ok (.if_icmp .ge 82, 3) := by decide +kernel
theorem dX9_makesOfFile_154 : decode cX9_makesOfFile 154 = .ok (.aload_n 0, 1) := by decide +kernel
theorem dX9_makesOfFile_155 : decode cX9_makesOfFile 155 = .ok (.getfield 197, 3) := by decide +kernel
theorem dX9_makesOfFile_158 : decode cX9_makesOfFile 158 = .ok (.aload_n 0, 1) := by decide +kernel
theorem dX9_makesOfFile_159 : decode cX9_makesOfFile 159 = .ok (.iload_n 1, 1) := by decide +kernel
theorem dX9_makesOfFile_160 : decode cX9_makesOfFile 160 = .ok (.invokevirtual 69, 3) := by decide +kernel
theorem dX9_makesOfFile_163 : decode cX9_makesOfFile 163 = .ok (.if_icmp .ge 70, 3) := by decide +kernel
theorem dX9_makesOfFile_166 : decode cX9_makesOfFile 166 = .ok (.aload_n 0, 1) := by decide +kernel
theorem dX9_makesOfFile_167 : decode cX9_makesOfFile 167 = .ok (.getfield 43, 3) := by decide +kernel
theorem dX9_makesOfFile_170 : decode cX9_makesOfFile 170 = .ok (.aload_n 0, 1) := by decide +kernel
theorem dX9_makesOfFile_171 : decode cX9_makesOfFile 171 = .ok (.getfield 203, 3) := by decide +kernel
theorem dX9_makesOfFile_174 : decode cX9_makesOfFile 174 = .ok (.aload_n 0, 1) := by decide +kernel
theorem dX9_makesOfFile_175 : decode cX9_makesOfFile 175 = .ok (.getfield 7, 3) := by decide +kernel
theorem dX9_makesOfFile_178 : decode cX9_makesOfFile 178 = .ok (.sipush 500, 3) := by decide +kernel
theorem dX9_makesOfFile_181 : decode cX9_makesOfFile 181 = .ok (.iload_n 1, 1) := by decide +kernel
theorem dX9_makesOfFile_182 : decode cX9_makesOfFile 182 = .ok (.imul, 1) := by decide +kernel
theorem dX9_makesOfFile_183 : decode cX9_makesOfFile 183 = .ok (.aload_n 0, 1) := by decide +kernel
theorem dX9_makesOfFile_184 : decode cX9_makesOfFile 184 = .ok (.getfield 197, 3) := by decide +kernel
theorem dX9_makesOfFile_187 : decode cX9_makesOfFile 187 = .ok (.iadd, 1) := by decide +kernel
theorem dX9_makesOfFile_188 : decode cX9_makesOfFile 188 = .ok (.baload, 1) := by decide +kernel
theorem dX9_makesOfFile_189 : decode cX9_makesOfFile 189 = .ok (.bastore, 1) := by decide +kernel
theorem dX9_makesOfFile_190 : decode cX9_makesOfFile 190 = .ok (.aload_n 0, 1) := by decide +kernel
theorem dX9_makesOfFile_191 : decode cX9_makesOfFile 191 = .ok (.dup, 1) := by decide +kernel
theorem dX9_makesOfFile_192 : decode cX9_makesOfFile 192 = .ok (.getfield 203, 3) := by decide +kernel
theorem dX9_makesOfFile_195 : decode cX9_makesOfFile 195 = .ok (.iconst 1, 1) := by decide +kernel
theorem dX9_makesOfFile_196 : decode cX9_makesOfFile 196 = .ok (.iadd, 1) := by decide +kernel
theorem dX9_makesOfFile_197 : decode cX9_makesOfFile 197 = .ok (.putfield 203, 3) := by decide +kernel
theorem dX9_makesOfFile_200 : decode cX9_makesOfFile 200 = .ok (.aload_n 0, 1) := by decide +kernel
theorem dX9_makesOfFile_201 : decode cX9_makesOfFile 201 = .ok (.dup, 1) := by decide +kernel
theorem dX9_makesOfFile_202 : decode cX9_makesOfFile 202 = .ok (.getfield 197, 3) := by decide +kernel
theorem dX9_makesOfFile_205 : decode cX9_makesOfFile 205 = .ok (.iconst 1, 1) := by decide +kernel
theorem dX9_makesOfFile_206 : decode cX9_makesOfFile 206 = .ok (.iadd, 1) := by decide +kernel
theorem dX9_makesOfFile_207 : decode cX9_makesOfFile 207 = .ok (.putfield 197, 3) := by decide +kernel
theorem dX9_makesOfFile_210 : decode cX9_makesOfFile 210 = .ok (.aload_n 0, 1) := by decide +kernel
theorem dX9_makesOfFile_211 : decode cX9_makesOfFile 211 = .ok (.getfield 203, 3) := by decide +kernel
theorem dX9_makesOfFile_214 : decode cX9_makesOfFile 214 = .ok (.bipush 16, 2) := by decide +kernel
theorem dX9_makesOfFile_216 : decode cX9_makesOfFile 216 = .ok (.if_icmp .ge 11, 3) := by decide +kernel
theorem dX9_makesOfFile_219 : decode cX9_makesOfFile 219 = .ok (.aload_n 0, 1) := by decide +kernel
theorem dX9_makesOfFile_220 : decode cX9_makesOfFile 220 = .ok (.iload_n 1, 1) := by decide +kernel
theorem dX9_makesOfFile_221 : decode cX9_makesOfFile 221 = .ok (.invokevirtual 200, 3) := by decide +kernel
theorem dX9_makesOfFile_224 : decode cX9_makesOfFile 224 = .ok (.goto 5, 3) := by decide +kernel
theorem dX9_makesOfFile_227 : decode cX9_makesOfFile 227 = .ok (.bipush (-2), 2) := by decide +kernel
theorem dX9_makesOfFile_229 : decode cX9_makesOfFile 229 = .ok (.istore_n 2, 1) := by decide +kernel
theorem dX9_makesOfFile_230 : decode cX9_makesOfFile 230 = .ok (.goto (-91), 3) := by decide +kernel
theorem dX9_makesOfFile_233 : decode cX9_makesOfFile 233 = .ok (.aload_n 0, 1) := by decide +kernel
theorem dX9_makesOfFile_234 : decode cX9_makesOfFile 234 = .ok (.aload_n 0, 1) := by decide +kernel
theorem dX9_makesOfFile_235 : decode cX9_makesOfFile 235 = .ok (.getfield 90, 3) := by decide +kernel
theorem dX9_makesOfFile_238 : decode cX9_makesOfFile 238 = .ok (.iconst 4, 1) := by decide +kernel
theorem dX9_makesOfFile_239 : decode cX9_makesOfFile 239 = .ok (.iconst 2, 1) := by decide +kernel
theorem dX9_makesOfFile_240 : decode cX9_makesOfFile 240 = .ok (.aload_n 0, 1) := by decide +kernel
theorem dX9_makesOfFile_241 : decode cX9_makesOfFile 241 = .ok (.getfield 203, 3) := by decide +kernel
theorem dX9_makesOfFile_244 : decode cX9_makesOfFile 244 = .ok (.iadd, 1) := by decide +kernel
theorem dX9_makesOfFile_245 : decode cX9_makesOfFile 245 = .ok (.invokevirtual 163, 3) := by decide +kernel
theorem dX9_makesOfFile_248 : decode cX9_makesOfFile 248 = .ok (.return_, 1) := by decide +kernel
theorem dX9_look_0 : decode cX9_look 0 = .ok (.aload_n 0, 1) := by decide +kernel
theorem dX9_look_1 : decode cX9_look 1 = .ok (.getfield 197, 3) := by decide +kernel
theorem dX9_look_4 : decode cX9_look 4 = .ok (.aload_n 0, 1) := by decide +kernel
theorem dX9_look_5 : decode cX9_look 5 = .ok (.getfield 97, 3) := by decide +kernel
theorem dX9_look_8 : decode cX9_look 8 = .ok (.iadd, 1) := by decide +kernel
theorem dX9_look_9 : decode cX9_look 9 = .ok (.aload_n 0, 1) := by decide +kernel
theorem dX9_look_10 : decode cX9_look 10 = .ok (.iload_n 1, 1) := by decide +kernel
theorem dX9_look_11 : decode cX9_look 11 = .ok (.invokevirtual 69, 3) := by decide +kernel
theorem dX9_look_14 : decode cX9_look 14 = .ok (.if_icmp .le 6, 3) := by decide +kernel
theorem dX9_look_17 : decode cX9_look 17 = .ok (.bipush (-2), 2) := by decide +kernel
theorem dX9_look_19 : decode cX9_look 19 = .ok (.ireturn, 1) := by decide +kernel
theorem dX9_look_20 : decode cX9_look 20 = .ok (.aload_n 0, 1) := by decide +kernel
theorem dX9_look_21 : decode cX9_look 21 = .ok (.getfield 7, 3) := by decide +kernel
theorem dX9_look_24 : decode cX9_look 24 = .ok (.sipush 500, 3) := by decide +kernel
theorem dX9_look_27 : decode cX9_look 27 = .ok (.iload_n 1, 1) := by decide +kernel
theorem dX9_look_28 : decode cX9_look 28 = .ok (.imul, 1) := by decide +kernel
theorem dX9_look_29 : decode cX9_look 29 = .ok (.aload_n 0, 1) := by decide +kernel
theorem dX9_look_30 : decode cX9_look 30 = .ok (.getfield 197, 3) := by decide +kernel
theorem dX9_look_33 : decode cX9_look 33 = .ok (.iadd, 1) := by decide +kernel
theorem dX9_look_34 : decode cX9_look 34 = .ok (.aload_n 0, 1) := by decide +kernel
theorem dX9_look_35 : decode cX9_look 35 = .ok (.getfield 97, 3) := by decide +kernel
theorem dX9_look_38 : decode cX9_look 38 = .ok (.invokestatic 87, 3) := by decide +kernel
theorem dX9_look_41 : decode cX9_look 41 = .ok (.lstore_n 2, 1) := by decide +kernel
theorem dX9_look_42 : decode cX9_look 42 = .ok (.aload_n 0, 1) := by decide +kernel
theorem dX9_look_43 : decode cX9_look 43 = .ok (.getfield 7, 3) := by decide +kernel
theorem dX9_look_46 : decode cX9_look 46 = .ok (.sipush 500, 3) := by decide +kernel
theorem dX9_look_49 : decode cX9_look 49 = .ok (.iload_n 1, 1) := by decide +kernel
theorem dX9_look_50 : decode cX9_look 50 = .ok (.imul, 1) := by decide +kernel
theorem dX9_look_51 : decode cX9_look 51 = .ok (.aload_n 0, 1) := by decide +kernel
theorem dX9_look_52 : decode cX9_look 52 = .ok (.getfield 197, 3) := by decide +kernel
theorem dX9_look_55 : decode cX9_look 55 = .ok (.iadd, 1) := by decide +kernel
theorem dX9_look_56 : decode cX9_look 56 = .ok (.aload_n 0, 1) := by decide +kernel
theorem dX9_look_57 : decode cX9_look 57 = .ok (.getfield 97, 3) := by decide +kernel
theorem dX9_look_60 : decode cX9_look 60 = .ok (.aload_n 0, 1) := by decide +kernel
theorem dX9_look_61 : decode cX9_look 61 = .ok (.getfield 206, 3) := by decide +kernel
theorem dX9_look_64 : decode cX9_look 64 = .ok (.invokestatic 190, 3) := by decide +kernel
theorem dX9_look_67 : decode cX9_look 67 = .ok (.lstore 4, 2) := by decide +kernel
theorem dX9_look_69 : decode cX9_look 69 = .ok (.iconst 0, 1) := by decide +kernel
theorem dX9_look_70 : decode cX9_look 70 = .ok (.istore 6, 2) := by decide +kernel
theorem dX9_look_72 : decode cX9_look 72 = .ok (.iconst 0, 1) := by decide +kernel
theorem dX9_look_73 : decode cX9_look 73 = .ok (.istore 7, 2) := by decide +kernel
theorem dX9_look_75 : decode cX9_look 75 = .ok (.iload 7, 2) := by decide +kernel
theorem dX9_look_77 : decode cX9_look 77 = .ok (.aload_n 0, 1) := by decide +kernel
theorem dX9_look_78 : decode cX9_look 78 = .ok (.getfield 209, 3) := by decide +kernel
theorem dX9_look_81 : decode cX9_look 81 = .ok (.if_icmp .ge 60, 3) := by decide +kernel
theorem dX9_look_84 : decode cX9_look 84 = .ok (.aload_n 0, 1) := by decide +kernel
theorem dX9_look_85 : decode cX9_look 85 = .ok (.getfield 52, 3) := by decide +kernel
theorem dX9_look_88 : decode cX9_look 88 = .ok (.iload 7, 2) := by decide +kernel
theorem dX9_look_90 : decode cX9_look 90 = .ok (.laload, 1) := by decide +kernel
theorem dX9_look_91 : decode cX9_look 91 = .ok (.lload_n 2, 1) := by decide +kernel
theorem dX9_look_92 : decode cX9_look 92 = .ok (.lcmp, 1) := by decide +kernel
theorem dX9_look_93 : decode cX9_look 93 = .ok (.ifCond .ne 42, 3) := by decide +kernel
theorem dX9_look_96 : decode cX9_look 96 = .ok (.aload_n 0, 1) := by decide +kernel
theorem dX9_look_97 : decode cX9_look 97 = .ok (.getfield 24, 3) := by decide +kernel
theorem dX9_look_100 : decode cX9_look 100 = .ok (.bipush 10, 2) := by decide +kernel
theorem dX9_look_102 : decode cX9_look 102 = .ok (.dup2, 1) := by decide +kernel
theorem dX9_look_103 : decode cX9_look 103 = .ok (.iaload, 1) := by decide +kernel
theorem dX9_look_104 : decode cX9_look 104 = .ok (.iload 6, 2) := by decide +kernel
theorem dX9_look_106 : decode cX9_look 106 = .ok (.ifCond .eq 7, 3) := by decide +kernel
theorem dX9_look_109 : decode cX9_look 109 = .ok (.iconst 0, 1) := by decide +kernel
theorem dX9_look_110 : decode cX9_look 110 = .ok (.goto 4, 3) := by decide +kernel
theorem dX9_look_113 : decode cX9_look 113 = .ok (.iconst 1, 1) := by decide +kernel
theorem dX9_look_114 : decode cX9_look 114 = .ok (.iadd, 1) := by decide +kernel
theorem dX9_look_115 : decode cX9_look 115 = .ok (.iastore, 1) := by decide +kernel
theorem dX9_look_116 : decode cX9_look 116 = .ok (.iconst 1, 1) := by decide +kernel
theorem dX9_look_117 : decode cX9_look 117 = .ok (.istore 6, 2) := by decide +kernel
theorem dX9_look_119 : decode cX9_look 119 = .ok (.aload_n 0, 1) := by decide +kernel
theorem dX9_look_120 : decode cX9_look 120 = .ok (.getfield 55, 3) := by decide +kernel
theorem dX9_look_123 : decode cX9_look 123 = .ok (.iload 7, 2) := by decide +kernel
theorem dX9_look_125 : decode cX9_look 125 = .ok (.laload, 1) := by decide +kernel
theorem dX9_look_126 : decode cX9_look 126 = .ok (.lload 4, 2) := by decide +kernel
theorem dX9_look_128 : decode cX9_look 128 = .ok (.lcmp, 1) := by decide +kernel
theorem dX9_look_129 : decode cX9_look 129 = .ok (.ifCond .ne 6, 3) := by decide +kernel
theorem dX9_look_132 : decode cX9_look 132 = .ok (.iload 7, 2) := by decide +kernel
theorem dX9_look_134 : decode cX9_look 134 = .ok (.ireturn, 1) := by decide +kernel
theorem dX9_look_135 : decode cX9_look 135 = .ok (.iinc 7 1, 3) := by decide +kernel
theorem dX9_look_138 : decode cX9_look 138 = .ok (.goto (-63), 3) := by decide +kernel
theorem dX9_look_141 : decode cX9_look 141 = .ok (.aload_n 0, 1) := by decide +kernel
theorem dX9_look_142 : decode cX9_look 142 = .ok (.getfield 24, 3) := by decide +kernel
theorem dX9_look_145 : decode cX9_look 145 = .ok (.bipush 11, 2) := by decide +kernel
theorem dX9_look_147 : decode cX9_look 147 = .ok (.dup2, 1) := by decide +kernel
theorem dX9_look_148 : decode cX9_look 148 = .ok (.iaload, 1) := by decide +kernel
theorem dX9_look_149 : decode cX9_look 149 = .ok (.iload 6, 2) := by decide +kernel
theorem dX9_look_151 : decode cX9_look 151 = .ok (.ifCond .eq 7, 3) := by decide +kernel
theorem dX9_look_154 : decode cX9_look 154 = .ok (.iconst 1, 1) := by decide +kernel
theorem dX9_look_155 : decode cX9_look 155 = .ok (.goto 4, 3) := by decide +kernel
theorem dX9_look_158 : decode cX9_look 158 = .ok (.iconst 0, 1) := by decide +kernel
theorem dX9_look_159 : decode cX9_look 159 = .ok (.iadd, 1) := by decide +kernel
theorem dX9_look_160 : decode cX9_look 160 = .ok (.iastore, 1) := by decide +kernel
theorem dX9_look_161 : decode cX9_look 161 = .ok (.bipush (-2), 2) := by decide +kernel
theorem dX9_look_163 : decode cX9_look 163 = .ok (.ireturn, 1) := by decide +kernel
theorem dX9_comes_0 : decode cX9_comes 0 = .ok (.aload_n 0, 1) := by decide +kernel
theorem dX9_comes_1 : decode cX9_comes 1 = .ok (.getfield 131, 3) := by decide +kernel
theorem dX9_comes_4 : decode cX9_comes 4 = .ok (.tableswitch 312 0 6 #[44, 52, 64, 71, 167, 210, 305], 44) := by decide +kernel
theorem dX9_comes_48 : decode cX9_comes 48 = .ok (.aload_n 0, 1) := by decide +kernel
theorem dX9_comes_49 : decode cX9_comes 49 = .ok (.iconst 1, 1) := by decide +kernel
theorem dX9_comes_50 : decode cX9_comes 50 = .ok (.putfield 109, 3) := by decide +kernel
theorem dX9_comes_53 : decode cX9_comes 53 = .ok (.goto 296, 3) := by decide +kernel
theorem dX9_comes_56 : decode cX9_comes 56 = .ok (.aload_n 0, 1) := by decide +kernel
theorem dX9_comes_57 : decode cX9_comes 57 = .ok (.iconst 0, 1) := by decide +kernel
theorem dX9_comes_58 : decode cX9_comes 58 = .ok (.putfield 109, 3) := by decide +kernel
theorem dX9_comes_61 : decode cX9_comes 61 = .ok (.aload_n 0, 1) := by decide +kernel
theorem dX9_comes_62 : decode cX9_comes 62 = .ok (.invokevirtual 212, 3) := by decide +kernel
theorem dX9_comes_65 : decode cX9_comes 65 = .ok (.goto 284, 3) := by decide +kernel
theorem dX9_comes_68 : decode cX9_comes 68 = .ok (.aload_n 0, 1) := by decide +kernel
theorem dX9_comes_69 : decode cX9_comes 69 = .ok (.invokevirtual 215, 3) := by decide +kernel
theorem dX9_comes_72 : decode cX9_comes 72 = .ok (.goto 277, 3) := by decide +kernel
theorem dX9_comes_75 : decode cX9_comes 75 = .ok (.aload_n 0, 1) := by decide +kernel
theorem dX9_comes_76 : decode cX9_comes 76 = .ok (.getfield 33, 3) := by decide +kernel
theorem dX9_comes_79 : decode cX9_comes 79 = .ok (.aload_n 0, 1) := by decide +kernel
theorem dX9_comes_80 : decode cX9_comes 80 = .ok (.getfield 112, 3) := by decide +kernel
theorem dX9_comes_83 : decode cX9_comes 83 = .ok (.iconst 0, 1) := by decide +kernel
theorem dX9_comes_84 : decode cX9_comes 84 = .ok (.bastore, 1) := by decide +kernel
theorem dX9_comes_85 : decode cX9_comes 85 = .ok (.aload_n 0, 1) := by decide +kernel
theorem dX9_comes_86 : decode cX9_comes 86 = .ok (.getfield 37, 3) := by decide +kernel
theorem dX9_comes_89 : decode cX9_comes 89 = .ok (.aload_n 0, 1) := by decide +kernel
theorem dX9_comes_90 : decode cX9_comes 90 = .ok (.getfield 112, 3) := by decide +kernel
theorem dX9_comes_93 : decode cX9_comes 93 = .ok (.dup2, 1) := by decide +kernel
theorem dX9_comes_94 : decode cX9_comes 94 = .ok (.baload, 1) := by decide +kernel
theorem dX9_comes_95 : decode cX9_comes 95 = .ok (.aload_n 0, 1) := by decide +kernel
theorem dX9_comes_96 : decode cX9_comes 96 = .ok (.getfield 100, 3) := by decide +kernel
theorem dX9_comes_99 : decode cX9_comes 99 = .ok (.iconst 2, 1) := by decide +kernel
theorem dX9_comes_100 : decode cX9_comes 100 = .ok (.if_icmp .ne 7, 3) := by decide +kernel
theorem dX9_comes_103 : decode cX9_comes 103 = .ok (.iconst 1, 1) := by decide +kernel
theorem dX9_comes_104 : decode cX9_comes 104 = .ok (.goto 4, 3) := by decide +kernel
theorem dX9_comes_107 : decode cX9_comes 107 = .ok (.iconst 0, 1) := by decide +kernel
theorem dX9_comes_108 : decode cX9_comes 108 = .ok (.ior, 1) := by decide +kernel
theorem dX9_comes_109 : decode cX9_comes 109 = .ok (.bastore, 1) := by decide +kernel
theorem dX9_comes_110 : decode cX9_comes 110 = .ok (.aload_n 0, 1) := by decide +kernel
theorem dX9_comes_111 : decode cX9_comes 111 = .ok (.getfield 13, 3) := by decide +kernel
theorem dX9_comes_114 : decode cX9_comes 114 = .ok (.bipush 8, 2) := by decide +kernel
theorem dX9_comes_116 : decode cX9_comes 116 = .ok (.aload_n 0, 1) := by decide +kernel
theorem dX9_comes_117 : decode cX9_comes 117 = .ok (.invokevirtual 157, 3) := by decide +kernel
theorem dX9_comes_120 : decode cX9_comes 120 = .ok (.imul, 1) := by decide +kernel
theorem dX9_comes_121 : decode cX9_comes 121 = .ok (.aload_n 0, 1) := by decide +kernel
theorem dX9_comes_122 : decode cX9_comes 122 = .ok (.getfield 112, 3) := by decide +kernel
theorem dX9_comes_125 : decode cX9_comes 125 = .ok (.iadd, 1) := by decide +kernel
theorem dX9_comes_126 : decode cX9_comes 126 = .ok (.aload_n 0, 1) := by decide +kernel
theorem dX9_comes_127 : decode cX9_comes 127 = .ok (.getfield 100, 3) := by decide +kernel
theorem dX9_comes_130 : decode cX9_comes 130 = .ok (.iconst 1, 1) := by decide +kernel
theorem dX9_comes_131 : decode cX9_comes 131 = .ok (.if_icmp .ne 8, 3) := by decide +kernel
theorem dX9_comes_134 : decode cX9_comes 134 = .ok (.bipush (-2), 2) := by decide +kernel
theorem dX9_comes_136 : decode cX9_comes 136 = .ok (.goto 20, 3) := by decide +kernel
theorem dX9_comes_139 : decode cX9_comes 139 = .ok (.aload_n 0, 1) := by decide +kernel
theorem dX9_comes_140 : decode cX9_comes 140 = .ok (.getfield 13, 3) := by decide +kernel
theorem dX9_comes_143 : decode cX9_comes 143 = .ok (.bipush 8, 2) := by decide +kernel
theorem dX9_comes_145 : decode cX9_comes 145 = .ok (.aload_n 0, 1) := by decide +kernel
theorem dX9_comes_146 : decode cX9_comes 146 = .ok (.invokevirtual 157, 3) := by decide +kernel
theorem dX9_comes_149 : decode cX9_comes 149 = .ok (.imul, 1) := by decide +kernel
theorem dX9_comes_150 : decode cX9_comes 150 = .ok (.aload_n 0, 1) := by decide +kernel
theorem dX9_comes_151 : decode cX9_comes 151 = .ok (.getfield 112, 3) := by decide +kernel
theorem dX9_comes_154 : decode cX9_comes 154 = .ok (.iadd, 1) := by decide +kernel
theorem dX9_comes_155 : decode cX9_comes 155 = .ok (.iaload, 1) := by decide +kernel
theorem dX9_comes_156 : decode cX9_comes 156 = .ok (.iastore, 1) := by decide +kernel
theorem dX9_comes_157 : decode cX9_comes 157 = .ok (.aload_n 0, 1) := by decide +kernel
theorem dX9_comes_158 : decode cX9_comes 158 = .ok (.bipush (-2), 2) := by decide +kernel
theorem dX9_comes_160 : decode cX9_comes 160 = .ok (.putfield 112, 3) := by decide +kernel
theorem dX9_comes_163 : decode cX9_comes 163 = .ok (.aload_n 0, 1) := by decide +kernel
theorem dX9_comes_164 : decode cX9_comes 164 = .ok (.iconst 0, 1) := by decide +kernel
theorem dX9_comes_165 : decode cX9_comes 165 = .ok (.putfield 109, 3) := by decide +kernel
theorem dX9_comes_168 : decode cX9_comes 168 = .ok (.goto 181, 3) := by decide +kernel
theorem dX9_comes_171 : decode cX9_comes 171 = .ok (.aload_n 0, 1) := by decide +kernel
theorem dX9_comes_172 : decode cX9_comes 172 = .ok (.getfield 24, 3) := by decide +kernel
theorem dX9_comes_175 : decode cX9_comes 175 = .ok (.bipush 9, 2) := by decide +kernel
theorem dX9_comes_177 : decode cX9_comes 177 = .ok (.dup2, 1) := by decide +kernel
theorem dX9_comes_178 : decode cX9_comes 178 = .ok (.iaload, 1) := by decide +kernel
theorem dX9_comes_179 : decode cX9_comes 179 = .ok (.aload_n 0, 1) := by decide +kernel
theorem dX9_comes_180 : decode cX9_comes 180 = .ok (.getfield 203, 3) := by decide +kernel
theorem dX9_comes_183 : decode cX9_comes 183 = .ok (.iadd, 1) := by decide +kernel
theorem dX9_comes_184 : decode cX9_comes 184 = .ok (.iastore, 1) := by decide +kernel
theorem dX9_comes_185 : decode cX9_comes 185 = .ok (.iconst 0, 1) := by decide +kernel
theorem dX9_comes_186 : decode cX9_comes 186 = .ok (.istore_n 1, 1) := by decide +kernel
theorem dX9_comes_187 : decode cX9_comes 187 = .ok (.iload_n 1, 1) := by decide +kernel
theorem dX9_comes_188 : decode cX9_comes 188 = .ok (.aload_n 0, 1) := by decide +kernel
theorem dX9_comes_189 : decode cX9_comes 189 = .ok (.getfield 203, 3) := by decide +kernel
theorem dX9_comes_192 : decode cX9_comes 192 = .ok (.if_icmp .ge 19, 3) := by decide +kernel
theorem dX9_comes_195 : decode cX9_comes 195 = .ok (.aload_n 0, 1) := by decide +kernel
theorem dX9_comes_196 : decode cX9_comes 196 = .ok (.aload_n 0, 1) := by decide +kernel
theorem dX9_comes_197 : decode cX9_comes 197 = .ok (.getfield 43, 3) := by decide +kernel
theorem dX9_comes_200 : decode cX9_comes 200 = .ok (.iload_n 1, 1) := by decide +kernel
theorem dX9_comes_201 : decode cX9_comes 201 = .ok (.baload, 1) := by decide +kernel
theorem dX9_comes_202 : decode cX9_comes 202 = .ok (.invokevirtual 218, 3) := by decide +kernel
theorem dX9_comes_205 : decode cX9_comes 205 = .ok (.iinc 1 1, 3) := by decide +kernel
theorem dX9_comes_208 : decode cX9_comes 208 = .ok (.goto (-21), 3) := by decide +kernel
theorem dX9_comes_211 : decode cX9_comes 211 = .ok (.goto 138, 3) := by decide +kernel
theorem dX9_comes_214 : decode cX9_comes 214 = .ok (.aload_n 0, 1) := by decide +kernel
theorem dX9_comes_215 : decode cX9_comes 215 = .ok (.getfield 24, 3) := by decide +kernel
theorem dX9_comes_218 : decode cX9_comes 218 = .ok (.bipush 8, 2) := by decide +kernel
theorem dX9_comes_220 : decode cX9_comes 220 = .ok (.dup2, 1) := by decide +kernel
theorem dX9_comes_221 : decode cX9_comes 221 = .ok (.iaload, 1) := by decide +kernel
theorem dX9_comes_222 : decode cX9_comes 222 = .ok (.iconst 1, 1) := by decide +kernel
theorem dX9_comes_223 : decode cX9_comes 223 = .ok (.iadd, 1) := by decide +kernel
theorem dX9_comes_224 : decode cX9_comes 224 = .ok (.iastore, 1) := by decide +kernel
theorem dX9_comes_225 : decode cX9_comes 225 = .ok (.aload_n 0, 1) := by decide +kernel
theorem dX9_comes_226 : decode cX9_comes 226 = .ok (.getfield 97, 3) := by decide +kernel
theorem dX9_comes_229 : decode cX9_comes 229 = .ok (.aload_n 0, 1) := by decide +kernel
theorem dX9_comes_230 : decode cX9_comes 230 = .ok (.getfield 134, 3) := by decide +kernel
theorem dX9_comes_233 : decode cX9_comes 233 = .ok (.imul, 1) := by decide +kernel
theorem dX9_comes_234 : decode cX9_comes 234 = .ok (.istore_n 1, 1) := by decide +kernel
theorem dX9_comes_235 : decode cX9_comes 235 = .ok (.iload_n 1, 1) := by decide +kernel
theorem dX9_comes_236 : decode cX9_comes 236 = .ok (.aload_n 0, 1) := by decide +kernel
theorem dX9_comes_237 : decode cX9_comes 237 = .ok (.getfield 97, 3) := by decide +kernel
theorem dX9_comes_240 : decode cX9_comes 240 = .ok (.aload_n 0, 1) := by decide +kernel
theorem dX9_comes_241 : decode cX9_comes 241 = .ok (.getfield 134, 3) := by decide +kernel
theorem dX9_comes_244 : decode cX9_comes 244 = .ok (.imul, 1) := by decide +kernel
theorem dX9_comes_245 : decode cX9_comes 245 = .ok (.aload_n 0, 1) := by decide +kernel
theorem dX9_comes_246 : decode cX9_comes 246 = .ok (.getfield 97, 3) := by decide +kernel
theorem dX9_comes_249 : decode cX9_comes 249 = .ok (.iadd, 1) := by decide +kernel
theorem dX9_comes_250 : decode cX9_comes 250 = .ok (.if_icmp .ge 56, 3) := by decide +kernel
theorem dX9_comes_253 : decode cX9_comes 253 = .ok (.iload_n 1, 1) := by decide +kernel
theorem dX9_comes_254 : decode cX9_comes 254 = .ok (.aload_n 0, 1) := by decide +kernel
theorem dX9_comes_255 : decode cX9_comes 255 = .ok (.bipush 8, 2) := by decide +kernel
theorem dX9_comes_257 : decode cX9_comes 257 = .ok (.aload_n 0, 1) := by decide +kernel
theorem dX9_comes_258 : decode cX9_comes 258 = .ok (.invokevirtual 157, 3) := by decide +kernel
theorem dX9_comes_261 : decode cX9_comes 261 = .ok (.imul, 1) := by decide +kernel
theorem dX9_comes_262 : decode cX9_comes 262 = .ok (.aload_n 0, 1) := by decide +kernel
theorem dX9_comes_263 : decode cX9_comes 263 = .ok (.getfield 112, 3) := by decide +kernel
theorem dX9_comes_266 : decode cX9_comes 266 = .ok (.iadd, 1) := by decide +kernel
theorem dX9_comes_267 : decode cX9_comes 267 = .ok (.invokevirtual 69, 3) := by decide +kernel
theorem dX9_comes_270 : decode cX9_comes 270 = .ok (.if_icmp .ge 36, 3) := by decide +kernel
theorem dX9_comes_273 : decode cX9_comes 273 = .ok (.aload_n 0, 1) := by decide +kernel
theorem dX9_comes_274 : decode cX9_comes 274 = .ok (.aload_n 0, 1) := by decide +kernel
theorem dX9_comes_275 : decode cX9_comes 275 = .ok (.getfield 7, 3) := by decide +kernel
theorem dX9_comes_278 : decode cX9_comes 278 = .ok (.sipush 500, 3) := by decide +kernel
theorem dX9_comes_281 : decode cX9_comes 281 = .ok (.bipush 8, 2) := by decide +kernel
theorem dX9_comes_283 : decode cX9_comes 283 = .ok (.aload_n 0, 1) := by decide +kernel
theorem dX9_comes_284 : decode cX9_comes 284 = .ok (.invokevirtual 157, 3) := by decide +kernel
theorem dX9_comes_287 : decode cX9_comes 287 = .ok (.imul, 1) := by decide +kernel
theorem dX9_comes_288 : decode cX9_comes 288 = .ok (.aload_n 0, 1) := by decide +kernel
theorem dX9_comes_289 : decode cX9_comes 289 = .ok (.getfield 112, 3) := by decide +kernel
theorem dX9_comes_292 : decode cX9_comes 292 = .ok (.iadd, 1) := by decide +kernel
theorem dX9_comes_293 : decode cX9_comes 293 = .ok (.imul, 1) := by decide +kernel
theorem dX9_comes_294 : decode cX9_comes 294 = .ok (.iload_n 1, 1) := by decide +kernel
theorem dX9_comes_295 : decode cX9_comes 295 = .ok (.iadd, 1) := by decide +kernel
theorem dX9_comes_296 : decode cX9_comes 296 = .ok (.baload, 1) := by decide +kernel
theorem dX9_comes_297 : decode cX9_comes 297 = .ok (.invokevirtual 218, 3) := by decide +kernel
theorem dX9_comes_300 : decode cX9_comes 300 = .ok (.iinc 1 1, 3) := by decide +kernel
theorem dX9_comes_303 : decode cX9_comes 303 = .ok (.goto (-68), 3) := by decide +kernel
theorem dX9_comes_306 : decode cX9_comes 306 = .ok (.goto 43, 3) := by decide +kernel
theorem dX9_comes_309 : decode cX9_comes 309 = .ok (.aload_n 0, 1) := by decide +kernel
theorem dX9_comes_310 : decode cX9_comes 310 = .ok (.invokevirtual 222, 3) := by decide +kernel
theorem dX9_comes_313 : decode cX9_comes 313 = .ok (.goto 36, 3) := by decide +kernel
theorem dX9_comes_316 : decode cX9_comes 316 = .ok (.aload_n 0, 1) := by decide +kernel
theorem dX9_comes_317 : decode cX9_comes 317 = .ok (.iconst 0, 1) := by decide +kernel
theorem dX9_comes_318 : decode cX9_comes 318 = .ok (.putfield 109, 3) := by decide +kernel
theorem dX9_comes_321 : decode cX9_comes 321 = .ok (.aload_n 0, 1) := by decide +kernel
theorem dX9_comes_322 : decode cX9_comes 322 = .ok (.aload_n 0, 1) := by decide +kernel
theorem dX9_comes_323 : decode cX9_comes 323 = .ok (.getfield 225, 3) := by decide +kernel
theorem dX9_comes_326 : decode cX9_comes 326 = .ok (.ifCond .ne 11, 3) := by decide +kernel
theorem dX9_comes_329 : decode cX9_comes 329 = .ok (.aload_n 0, 1) := by decide +kernel
theorem dX9_comes_330 : decode cX9_comes 330 = .ok (.getfield 181, 3) := by decide +kernel
theorem dX9_comes_333 : decode cX9_comes 333 = .ok (.iconst 3, 1) := by decide +kernel
theorem dX9_comes_334 : decode cX9_comes 334 = .ok (.if_icmp .ne 8, 3) := by decide +kernel
theorem dX9_comes_337 : decode cX9_comes 337 = .ok (.bipush (-2), 2) := by decide +kernel
theorem dX9_comes_339 : decode cX9_comes 339 = .ok (.goto 7, 3) := by decide +kernel
theorem dX9_comes_342 : decode cX9_comes 342 = .ok (.aload_n 0, 1) := by decide +kernel
theorem dX9_comes_343 : decode cX9_comes 343 = .ok (.getfield 112, 3) := by decide +kernel
theorem dX9_comes_346 : decode cX9_comes 346 = .ok (.putfield 112, 3) := by decide +kernel
theorem dX9_comes_349 : decode cX9_comes 349 = .ok (.return_, 1) := by decide +kernel
theorem dX9_builds_0 : decode cX9_builds 0 = .ok (.aload_n 0, 1) := by decide +kernel
theorem dX9_builds_1 : decode cX9_builds 1 = .ok (.getfield 119, 3) := by decide +kernel
theorem dX9_builds_4 : decode cX9_builds 4 = .ok (.sipush 500, 3) := by decide +kernel
theorem dX9_builds_7 : decode cX9_builds 7 = .ok (.if_icmp .ge 23, 3) := by decide +kernel
theorem dX9_builds_10 : decode cX9_builds 10 = .ok (.aload_n 0, 1) := by decide +kernel
theorem dX9_builds_11 : decode cX9_builds 11 = .ok (.getfield 40, 3) := by decide +kernel
theorem dX9_builds_14 : decode cX9_builds 14 = .ok (.aload_n 0, 1) := by decide +kernel
theorem dX9_builds_15 : decode cX9_builds 15 = .ok (.getfield 119, 3) := by decide +kernel
theorem dX9_builds_18 : decode cX9_builds 18 = .ok (.iload_n 1, 1) := by decide +kernel
theorem dX9_builds_19 : decode cX9_builds 19 = .ok (.bastore, 1) := by decide +kernel
theorem dX9_builds_20 : decode cX9_builds 20 = .ok (.aload_n 0, 1) := by decide +kernel
theorem dX9_builds_21 : decode cX9_builds 21 = .ok (.dup, 1) := by decide +kernel
theorem dX9_builds_22 : decode cX9_builds 22 = .ok (.getfield 119, 3) := by decide +kernel
theorem dX9_builds_25 : decode cX9_builds 25 = .ok (.iconst 1, 1) := by decide +kernel
theorem dX9_builds_26 : decode cX9_builds 26 = .ok (.iadd, 1) := by decide +kernel
theorem dX9_builds_27 : decode cX9_builds 27 = .ok (.putfield 119, 3) := by decide +kernel
theorem dX9_builds_30 : decode cX9_builds 30 = .ok (.return_, 1) := by decide +kernel
theorem dX9_nodeComes_0 : decode cX9_nodeComes 0 = .ok (.aload_n 0, 1) := by decide +kernel
theorem dX9_nodeComes_1 : decode cX9_nodeComes 1 = .ok (.aload_n 0, 1) := by decide +kernel
theorem dX9_nodeComes_2 : decode cX9_nodeComes 2 = .ok (.invokevirtual 157, 3) := by decide +kernel
theorem dX9_nodeComes_5 : decode cX9_nodeComes 5 = .ok (.aload_n 0, 1) := by decide +kernel
theorem dX9_nodeComes_6 : decode cX9_nodeComes 6 = .ok (.getfield 134, 3) := by decide +kernel
theorem dX9_nodeComes_9 : decode cX9_nodeComes 9 = .ok (.invokevirtual 167, 3) := by decide +kernel
theorem dX9_nodeComes_12 : decode cX9_nodeComes 12 = .ok (.aload_n 0, 1) := by decide +kernel
theorem dX9_nodeComes_13 : decode cX9_nodeComes 13 = .ok (.getfield 171, 3) := by decide +kernel
theorem dX9_nodeComes_16 : decode cX9_nodeComes 16 = .ok (.lcmp, 1) := by decide +kernel
theorem dX9_nodeComes_17 : decode cX9_nodeComes 17 = .ok (.ifCond .ne 4, 3) := by decide +kernel
theorem dX9_nodeComes_20 : decode cX9_nodeComes 20 = .ok (.return_, 1) := by decide +kernel
theorem dX9_nodeComes_21 : decode cX9_nodeComes 21 = .ok (.aload_n 0, 1) := by decide +kernel
theorem dX9_nodeComes_22 : decode cX9_nodeComes 22 = .ok (.getfield 134, 3) := by decide +kernel
theorem dX9_nodeComes_25 : decode cX9_nodeComes 25 = .ok (.bipush 8, 2) := by decide +kernel
theorem dX9_nodeComes_27 : decode cX9_nodeComes 27 = .ok (.if_icmp .ge 50, 3) := by decide +kernel
theorem dX9_nodeComes_30 : decode cX9_nodeComes 30 = .ok (.aload_n 0, 1) := by decide +kernel
theorem dX9_nodeComes_31 : decode cX9_nodeComes 31 = .ok (.getfield 30, 3) := by decide +kernel
theorem dX9_nodeComes_34 : decode cX9_nodeComes 34 = .ok (.aload_n 0, 1) := by decide +kernel
theorem dX9_nodeComes_35 : decode cX9_nodeComes 35 = .ok (.getfield 106, 3) := by decide +kernel
theorem dX9_nodeComes_38 : decode cX9_nodeComes 38 = .ok (.iconst 2, 1) := by decide +kernel
theorem dX9_nodeComes_39 : decode cX9_nodeComes 39 = .ok (.aload_n 0, 1) := by decide +kernel
theorem dX9_nodeComes_40 : decode cX9_nodeComes 40 = .ok (.getfield 134, 3) := by decide +kernel
theorem dX9_nodeComes_43 : decode cX9_nodeComes 43 = .ok (.imul, 1) := by decide +kernel
theorem dX9_nodeComes_44 : decode cX9_nodeComes 44 = .ok (.iconst 1, 1) := by decide +kernel
theorem dX9_nodeComes_45 : decode cX9_nodeComes 45 = .ok (.iadd, 1) := by decide +kernel
theorem dX9_nodeComes_46 : decode cX9_nodeComes 46 = .ok (.iastore, 1) := by decide +kernel
theorem dX9_nodeComes_47 : decode cX9_nodeComes 47 = .ok (.aload_n 0, 1) := by decide +kernel
theorem dX9_nodeComes_48 : decode cX9_nodeComes 48 = .ok (.getfield 30, 3) := by decide +kernel
theorem dX9_nodeComes_51 : decode cX9_nodeComes 51 = .ok (.aload_n 0, 1) := by decide +kernel
theorem dX9_nodeComes_52 : decode cX9_nodeComes 52 = .ok (.getfield 106, 3) := by decide +kernel
theorem dX9_nodeComes_55 : decode cX9_nodeComes 55 = .ok (.iconst 1, 1) := by decide +kernel
theorem dX9_nodeComes_56 : decode cX9_nodeComes 56 = .ok (.iadd, 1) := by decide +kernel
theorem dX9_nodeComes_57 : decode cX9_nodeComes 57 = .ok (.iconst 2, 1) := by decide +kernel
theorem dX9_nodeComes_58 : decode cX9_nodeComes 58 = .ok (.aload_n 0, 1) := by decide +kernel
theorem dX9_nodeComes_59 : decode cX9_nodeComes 59 = .ok (.getfield 134, 3) := by decide +kernel
theorem dX9_nodeComes_62 : decode cX9_nodeComes 62 = .ok (.imul, 1) := by decide +kernel
theorem dX9_nodeComes_63 : decode cX9_nodeComes 63 = .ok (.iastore, 1) := by decide +kernel
theorem dX9_nodeComes_64 : decode cX9_nodeComes 64 = .ok (.aload_n 0, 1) := by decide +kernel
theorem dX9_nodeComes_65 : decode cX9_nodeComes 65 = .ok (.dup, 1) := by decide +kernel
theorem dX9_nodeComes_66 : decode cX9_nodeComes 66 = .ok (.getfield 106, 3) := by decide +kernel
theorem dX9_nodeComes_69 : decode cX9_nodeComes 69 = .ok (.iconst 2, 1) := by decide +kernel
theorem dX9_nodeComes_70 : decode cX9_nodeComes 70 = .ok (.iadd, 1) := by decide +kernel
theorem dX9_nodeComes_71 : decode cX9_nodeComes 71 = .ok (.putfield 106, 3) := by decide +kernel
theorem dX9_nodeComes_74 : decode cX9_nodeComes 74 = .ok (.goto 16, 3) := by decide +kernel
theorem dX9_nodeComes_77 : decode cX9_nodeComes 77 = .ok (.aload_n 0, 1) := by decide +kernel
theorem dX9_nodeComes_78 : decode cX9_nodeComes 78 = .ok (.getfield 33, 3) := by decide +kernel
theorem dX9_nodeComes_81 : decode cX9_nodeComes 81 = .ok (.aload_n 0, 1) := by decide +kernel
theorem dX9_nodeComes_82 : decode cX9_nodeComes 82 = .ok (.getfield 134, 3) := by decide +kernel
theorem dX9_nodeComes_85 : decode cX9_nodeComes 85 = .ok (.bipush 8, 2) := by decide +kernel
theorem dX9_nodeComes_87 : decode cX9_nodeComes 87 = .ok (.isub, 1) := by decide +kernel
theorem dX9_nodeComes_88 : decode cX9_nodeComes 88 = .ok (.iconst 1, 1) := by decide +kernel
theorem dX9_nodeComes_89 : decode cX9_nodeComes 89 = .ok (.bastore, 1) := by decide +kernel
theorem dX9_nodeComes_90 : decode cX9_nodeComes 90 = .ok (.return_, 1) := by decide +kernel
theorem dX9_sumsCome_0 : decode cX9_sumsCome 0 = .ok (.aload_n 0, 1) := by decide +kernel
theorem dX9_sumsCome_1 : decode cX9_sumsCome 1 = .ok (.aload_n 0, 1) := by decide +kernel
theorem dX9_sumsCome_2 : decode cX9_sumsCome 2 = .ok (.getfield 187, 3) := by decide +kernel
theorem dX9_sumsCome_5 : decode cX9_sumsCome 5 = .ok (.putfield 209, 3) := by decide +kernel
theorem dX9_sumsCome_8 : decode cX9_sumsCome 8 = .ok (.aload_n 0, 1) := by decide +kernel
theorem dX9_sumsCome_9 : decode cX9_sumsCome 9 = .ok (.aload_n 0, 1) := by decide +kernel
theorem dX9_sumsCome_10 : decode cX9_sumsCome 10 = .ok (.getfield 134, 3) := by decide +kernel
theorem dX9_sumsCome_13 : decode cX9_sumsCome 13 = .ok (.putfield 206, 3) := by decide +kernel
theorem dX9_sumsCome_16 : decode cX9_sumsCome 16 = .ok (.iconst 0, 1) := by decide +kernel
theorem dX9_sumsCome_17 : decode cX9_sumsCome 17 = .ok (.istore_n 1, 1) := by decide +kernel
theorem dX9_sumsCome_18 : decode cX9_sumsCome 18 = .ok (.iload_n 1, 1) := by decide +kernel
theorem dX9_sumsCome_19 : decode cX9_sumsCome 19 = .ok (.aload_n 0, 1) := by decide +kernel
theorem dX9_sumsCome_20 : decode cX9_sumsCome 20 = .ok (.getfield 187, 3) := by decide +kernel
theorem dX9_sumsCome_23 : decode cX9_sumsCome 23 = .ok (.if_icmp .ge 33, 3) := by decide +kernel
theorem dX9_sumsCome_26 : decode cX9_sumsCome 26 = .ok (.aload_n 0, 1) := by decide +kernel
theorem dX9_sumsCome_27 : decode cX9_sumsCome 27 = .ok (.getfield 52, 3) := by decide +kernel
theorem dX9_sumsCome_30 : decode cX9_sumsCome 30 = .ok (.iload_n 1, 1) := by decide +kernel
theorem dX9_sumsCome_31 : decode cX9_sumsCome 31 = .ok (.aload_n 0, 1) := by decide +kernel
theorem dX9_sumsCome_32 : decode cX9_sumsCome 32 = .ok (.getfield 46, 3) := by decide +kernel
theorem dX9_sumsCome_35 : decode cX9_sumsCome 35 = .ok (.iload_n 1, 1) := by decide +kernel
theorem dX9_sumsCome_36 : decode cX9_sumsCome 36 = .ok (.laload, 1) := by decide +kernel
theorem dX9_sumsCome_37 : decode cX9_sumsCome 37 = .ok (.lastore, 1) := by decide +kernel
theorem dX9_sumsCome_38 : decode cX9_sumsCome 38 = .ok (.aload_n 0, 1) := by decide +kernel
theorem dX9_sumsCome_39 : decode cX9_sumsCome 39 = .ok (.getfield 55, 3) := by decide +kernel
theorem dX9_sumsCome_42 : decode cX9_sumsCome 42 = .ok (.iload_n 1, 1) := by decide +kernel
theorem dX9_sumsCome_43 : decode cX9_sumsCome 43 = .ok (.aload_n 0, 1) := by decide +kernel
theorem dX9_sumsCome_44 : decode cX9_sumsCome 44 = .ok (.getfield 49, 3) := by decide +kernel
theorem dX9_sumsCome_47 : decode cX9_sumsCome 47 = .ok (.iload_n 1, 1) := by decide +kernel
theorem dX9_sumsCome_48 : decode cX9_sumsCome 48 = .ok (.laload, 1) := by decide +kernel
theorem dX9_sumsCome_49 : decode cX9_sumsCome 49 = .ok (.lastore, 1) := by decide +kernel
theorem dX9_sumsCome_50 : decode cX9_sumsCome 50 = .ok (.iinc 1 1, 3) := by decide +kernel
theorem dX9_sumsCome_53 : decode cX9_sumsCome 53 = .ok (.goto (-35), 3) := by decide +kernel
theorem dX9_sumsCome_56 : decode cX9_sumsCome 56 = .ok (.aload_n 0, 1) := by decide +kernel
theorem dX9_sumsCome_57 : decode cX9_sumsCome 57 = .ok (.iconst 0, 1) := by decide +kernel
theorem dX9_sumsCome_58 : decode cX9_sumsCome 58 = .ok (.putfield 197, 3) := by decide +kernel
theorem dX9_sumsCome_61 : decode cX9_sumsCome 61 = .ok (.aload_n 0, 1) := by decide +kernel
theorem dX9_sumsCome_62 : decode cX9_sumsCome 62 = .ok (.iconst 1, 1) := by decide +kernel
theorem dX9_sumsCome_63 : decode cX9_sumsCome 63 = .ok (.putfield 194, 3) := by decide +kernel
theorem dX9_sumsCome_66 : decode cX9_sumsCome 66 = .ok (.aload_n 0, 1) := by decide +kernel
theorem dX9_sumsCome_67 : decode cX9_sumsCome 67 = .ok (.iconst 2, 1) := by decide +kernel
theorem dX9_sumsCome_68 : decode cX9_sumsCome 68 = .ok (.putfield 109, 3) := by decide +kernel
theorem dX9_sumsCome_71 : decode cX9_sumsCome 71 = .ok (.return_, 1) := by decide +kernel
theorem dX9_endComes_0 : decode cX9_endComes 0 = .ok (.aload_n 0, 1) := by decide +kernel
theorem dX9_endComes_1 : decode cX9_endComes 1 = .ok (.iconst 3, 1) := by decide +kernel
theorem dX9_endComes_2 : decode cX9_endComes 2 = .ok (.putfield 109, 3) := by decide +kernel
theorem dX9_endComes_5 : decode cX9_endComes 5 = .ok (.aload_n 0, 1) := by decide +kernel
theorem dX9_endComes_6 : decode cX9_endComes 6 = .ok (.aload_n 0, 1) := by decide +kernel
theorem dX9_endComes_7 : decode cX9_endComes 7 = .ok (.getfield 40, 3) := by decide +kernel
theorem dX9_endComes_10 : decode cX9_endComes 10 = .ok (.iconst 0, 1) := by decide +kernel
theorem dX9_endComes_11 : decode cX9_endComes 11 = .ok (.aload_n 0, 1) := by decide +kernel
theorem dX9_endComes_12 : decode cX9_endComes 12 = .ok (.getfield 119, 3) := by decide +kernel
theorem dX9_endComes_15 : decode cX9_endComes 15 = .ok (.invokestatic 79, 3) := by decide +kernel
theorem dX9_endComes_18 : decode cX9_endComes 18 = .ok (.aload_n 0, 1) := by decide +kernel
theorem dX9_endComes_19 : decode cX9_endComes 19 = .ok (.getfield 171, 3) := by decide +kernel
theorem dX9_endComes_22 : decode cX9_endComes 22 = .ok (.lcmp, 1) := by decide +kernel
theorem dX9_endComes_23 : decode cX9_endComes 23 = .ok (.ifCond .ne 7, 3) := by decide +kernel
theorem dX9_endComes_26 : decode cX9_endComes 26 = .ok (.iconst 1, 1) := by decide +kernel
theorem dX9_endComes_27 : decode cX9_endComes 27 = .ok (.goto 4, 3) := by decide +kernel
theorem dX9_endComes_30 : decode cX9_endComes 30 = .ok (.iconst 0, 1) := by decide +kernel
theorem dX9_endComes_31 : decode cX9_endComes 31 = .ok (.putfield 225, 3) := by decide +kernel
theorem dX9_endComes_34 : decode cX9_endComes 34 = .ok (.aload_n 0, 1) := by decide +kernel
theorem dX9_endComes_35 : decode cX9_endComes 35 = .ok (.getfield 225, 3) := by decide +kernel
theorem dX9_endComes_38 : decode cX9_endComes 38 = .ok (.ifCond .eq 81, 3) := by decide +kernel
theorem dX9_endComes_41 : decode cX9_endComes 41 = .ok (.bipush 8, 2) := by decide +kernel
theorem dX9_endComes_43 : decode cX9_endComes 43 = .ok (.aload_n 0, 1) := by decide +kernel
theorem dX9_endComes_44 : decode cX9_endComes 44 = .ok (.invokevirtual 157, 3) := by decide +kernel
theorem dX9_endComes_47 : decode cX9_endComes 47 = .ok (.imul, 1) := by decide +kernel
theorem dX9_endComes_48 : decode cX9_endComes 48 = .ok (.aload_n 0, 1) := by decide +kernel
theorem dX9_endComes_49 : decode cX9_endComes 49 = .ok (.getfield 112, 3) := by decide +kernel
theorem dX9_endComes_52 : decode cX9_endComes 52 = .ok (.iadd, 1) := by decide +kernel
theorem dX9_endComes_53 : decode cX9_endComes 53 = .ok (.istore_n 1, 1) := by decide +kernel
theorem dX9_endComes_54 : decode cX9_endComes 54 = .ok (.aload_n 0, 1) := by decide +kernel
theorem dX9_endComes_55 : decode cX9_endComes 55 = .ok (.getfield 13, 3) := by decide +kernel
theorem dX9_endComes_58 : decode cX9_endComes 58 = .ok (.iload_n 1, 1) := by decide +kernel
theorem dX9_endComes_59 : decode cX9_endComes 59 = .ok (.aload_n 0, 1) := by decide +kernel
theorem dX9_endComes_60 : decode cX9_endComes 60 = .ok (.getfield 119, 3) := by decide +kernel
theorem dX9_endComes_63 : decode cX9_endComes 63 = .ok (.iastore, 1) := by decide +kernel
theorem dX9_endComes_64 : decode cX9_endComes 64 = .ok (.iconst 0, 1) := by decide +kernel
theorem dX9_endComes_65 : decode cX9_endComes 65 = .ok (.istore_n 2, 1) := by decide +kernel
theorem dX9_endComes_66 : decode cX9_endComes 66 = .ok (.iload_n 2, 1) := by decide +kernel
theorem dX9_endComes_67 : decode cX9_endComes 67 = .ok (.aload_n 0, 1) := by decide +kernel
theorem dX9_endComes_68 : decode cX9_endComes 68 = .ok (.getfield 119, 3) := by decide +kernel
theorem dX9_endComes_71 : decode cX9_endComes 71 = .ok (.if_icmp .ge 27, 3) := by decide +kernel
theorem dX9_endComes_74 : decode cX9_endComes 74 = .ok (.aload_n 0, 1) := by decide +kernel
theorem dX9_endComes_75 : decode cX9_endComes 75 = .ok (.getfield 7, 3) := by decide +kernel
theorem dX9_endComes_78 : decode cX9_endComes 78 = .ok (.sipush 500, 3) := by decide +kernel
theorem dX9_endComes_81 : decode cX9_endComes 81 = .ok (.iload_n 1, 1) := by decide +kernel
theorem dX9_endComes_82 : decode cX9_endComes 82 = .ok (.imul, 1) := by decide +kernel
theorem dX9_endComes_83 : decode cX9_endComes 83 = .ok (.iload_n 2, 1) := by decide +kernel
theorem dX9_endComes_84 : decode cX9_endComes 84 = .ok (.iadd, 1) := by decide +kernel
theorem dX9_endComes_85 : decode cX9_endComes 85 = .ok (.aload_n 0, 1) := by decide +kernel
theorem dX9_endComes_86 : decode cX9_endComes 86 = .ok (.getfield 40, 3) := by decide +kernel
theorem dX9_endComes_89 : decode cX9_endComes 89 = .ok (.iload_n 2, 1) := by decide +kernel
theorem dX9_endComes_90 : decode cX9_endComes 90 = .ok (.baload, 1) := by decide +kernel
theorem dX9_endComes_91 : decode cX9_endComes 91 = .ok (.bastore, 1) := by decide +kernel
theorem dX9_endComes_92 : decode cX9_endComes 92 = .ok (.iinc 2 1, 3) := by decide +kernel
theorem dX9_endComes_95 : decode cX9_endComes 95 = .ok (.goto (-29), 3) := by decide +kernel
theorem dX9_endComes_98 : decode cX9_endComes 98 = .ok (.aload_n 0, 1) := by decide +kernel
theorem dX9_endComes_99 : decode cX9_endComes 99 = .ok (.getfield 24, 3) := by decide +kernel
theorem dX9_endComes_102 : decode cX9_endComes 102 = .ok (.iconst 5, 1) := by decide +kernel
theorem dX9_endComes_103 : decode cX9_endComes 103 = .ok (.dup2, 1) := by decide +kernel
theorem dX9_endComes_104 : decode cX9_endComes 104 = .ok (.iaload, 1) := by decide +kernel
theorem dX9_endComes_105 : decode cX9_endComes 105 = .ok (.iconst 1, 1) := by decide +kernel
theorem dX9_endComes_106 : decode cX9_endComes 106 = .ok (.iadd, 1) := by decide +kernel
theorem dX9_endComes_107 : decode cX9_endComes 107 = .ok (.iastore, 1) := by decide +kernel
theorem dX9_endComes_108 : decode cX9_endComes 108 = .ok (.aload_n 0, 1) := by decide +kernel
theorem dX9_endComes_109 : decode cX9_endComes 109 = .ok (.getfield 33, 3) := by decide +kernel
theorem dX9_endComes_112 : decode cX9_endComes 112 = .ok (.aload_n 0, 1) := by decide +kernel
theorem dX9_endComes_113 : decode cX9_endComes 113 = .ok (.getfield 112, 3) := by decide +kernel
theorem dX9_endComes_116 : decode cX9_endComes 116 = .ok (.iconst 0, 1) := by decide +kernel
theorem dX9_endComes_117 : decode cX9_endComes 117 = .ok (.bastore, 1) := by decide +kernel
theorem dX9_endComes_118 : decode cX9_endComes 118 = .ok (.return_, 1) := by decide +kernel
theorem dX9_endComes_119 : decode cX9_endComes 119 = .ok (.aload_n 0, 1) := by decide +kernel
theorem dX9_endComes_120 : decode cX9_endComes 120 = .ok (.getfield 24, 3) := by decide +kernel
theorem dX9_endComes_123 : decode cX9_endComes 123 = .ok (.bipush 7, 2) := by decide +kernel
theorem dX9_endComes_125 : decode cX9_endComes 125 = .ok (.dup2, 1) := by decide +kernel
theorem dX9_endComes_126 : decode cX9_endComes 126 = .ok (.iaload, 1) := by decide +kernel
theorem dX9_endComes_127 : decode cX9_endComes 127 = .ok (.iconst 1, 1) := by decide +kernel
theorem dX9_endComes_128 : decode cX9_endComes 128 = .ok (.iadd, 1) := by decide +kernel
theorem dX9_endComes_129 : decode cX9_endComes 129 = .ok (.iastore, 1) := by decide +kernel
theorem dX9_endComes_130 : decode cX9_endComes 130 = .ok (.aload_n 0, 1) := by decide +kernel
theorem dX9_endComes_131 : decode cX9_endComes 131 = .ok (.dup, 1) := by decide +kernel
theorem dX9_endComes_132 : decode cX9_endComes 132 = .ok (.getfield 181, 3) := by decide +kernel
theorem dX9_endComes_135 : decode cX9_endComes 135 = .ok (.iconst 1, 1) := by decide +kernel
theorem dX9_endComes_136 : decode cX9_endComes 136 = .ok (.iadd, 1) := by decide +kernel
theorem dX9_endComes_137 : decode cX9_endComes 137 = .ok (.putfield 181, 3) := by decide +kernel
theorem dX9_endComes_140 : decode cX9_endComes 140 = .ok (.aload_n 0, 1) := by decide +kernel
theorem dX9_endComes_141 : decode cX9_endComes 141 = .ok (.bipush 8, 2) := by decide +kernel
theorem dX9_endComes_143 : decode cX9_endComes 143 = .ok (.iconst 2, 1) := by decide +kernel
theorem dX9_endComes_144 : decode cX9_endComes 144 = .ok (.aload_n 0, 1) := by decide +kernel
theorem dX9_endComes_145 : decode cX9_endComes 145 = .ok (.getfield 184, 3) := by decide +kernel
theorem dX9_endComes_148 : decode cX9_endComes 148 = .ok (.imul, 1) := by decide +kernel
theorem dX9_endComes_149 : decode cX9_endComes 149 = .ok (.invokestatic 228, 3) := by decide +kernel
theorem dX9_endComes_152 : decode cX9_endComes 152 = .ok (.putfield 184, 3) := by decide +kernel
theorem dX9_endComes_155 : decode cX9_endComes 155 = .ok (.aload_n 0, 1) := by decide +kernel
theorem dX9_endComes_156 : decode cX9_endComes 156 = .ok (.getfield 181, 3) := by decide +kernel
theorem dX9_endComes_159 : decode cX9_endComes 159 = .ok (.iconst 3, 1) := by decide +kernel
theorem dX9_endComes_160 : decode cX9_endComes 160 = .ok (.if_icmp .ne 24, 3) := by decide +kernel
theorem dX9_endComes_163 : decode cX9_endComes 163 = .ok (.aload_n 0, 1) := by decide +kernel
theorem dX9_endComes_164 : decode cX9_endComes 164 = .ok (.getfield 24, 3) := by decide +kernel
theorem dX9_endComes_167 : decode cX9_endComes 167 = .ok (.bipush 6, 2) := by decide +kernel
theorem dX9_endComes_169 : decode cX9_endComes 169 = .ok (.dup2, 1) := by decide +kernel
theorem dX9_endComes_170 : decode cX9_endComes 170 = .ok (.iaload, 1) := by decide +kernel
theorem dX9_endComes_171 : decode cX9_endComes 171 = .ok (.iconst 1, 1) := by decide +kernel
theorem dX9_endComes_172 : decode cX9_endComes 172 = .ok (.iadd, 1) := by decide +kernel
theorem dX9_endComes_173 : decode cX9_endComes 173 = .ok (.iastore, 1) := by decide +kernel
theorem dX9_endComes_174 : decode cX9_endComes 174 = .ok (.aload_n 0, 1) := by decide +kernel
theorem dX9_endComes_175 : decode cX9_endComes 175 = .ok (.getfield 33, 3) := by decide +kernel
theorem dX9_endComes_178 : decode cX9_endComes 178 = .ok (.aload_n 0, 1) := by decide +kernel
theorem dX9_endComes_179 : decode cX9_endComes 179 = .ok (.getfield 112, 3) := by decide +kernel
theorem dX9_endComes_182 : decode cX9_endComes 182 = .ok (.iconst 0, 1) := by decide +kernel
theorem dX9_endComes_183 : decode cX9_endComes 183 = .ok (.bastore, 1) := by decide +kernel
theorem dX9_endComes_184 : decode cX9_endComes 184 = .ok (.return_, 1) := by decide +kernel
theorem dX9_lose_0 : decode cX9_lose 0 = .ok (.iload_n 1, 1) := by decide +kernel
theorem dX9_lose_1 : decode cX9_lose 1 = .ok (.iconst 1, 1) := by decide +kernel
theorem dX9_lose_2 : decode cX9_lose 2 = .ok (.if_icmp .lt 9, 3) := by decide +kernel
theorem dX9_lose_5 : decode cX9_lose 5 = .ok (.iload_n 1, 1) := by decide +kernel
theorem dX9_lose_6 : decode cX9_lose 6 = .ok (.bipush 50, 2) := by decide +kernel
theorem dX9_lose_8 : decode cX9_lose 8 = .ok (.if_icmp .le 5, 3) := by decide +kernel
theorem dX9_lose_11 : decode cX9_lose 11 = .ok (.iconst (-1), 1) := by decide +kernel
theorem dX9_lose_12 : decode cX9_lose 12 = .ok (.ireturn, 1) := by decide +kernel
theorem dX9_lose_13 : decode cX9_lose 13 = .ok (.iconst 0, 1) := by decide +kernel
theorem dX9_lose_14 : decode cX9_lose 14 = .ok (.istore_n 2, 1) := by decide +kernel
theorem dX9_lose_15 : decode cX9_lose 15 = .ok (.iload_n 2, 1) := by decide +kernel
theorem dX9_lose_16 : decode cX9_lose 16 = .ok (.aload_n 0, 1) := by decide +kernel
theorem dX9_lose_17 : decode cX9_lose 17 = .ok (.getfield 160, 3) := by decide +kernel
theorem dX9_lose_20 : decode cX9_lose 20 = .ok (.if_icmp .ge 21, 3) := by decide +kernel
theorem dX9_lose_23 : decode cX9_lose 23 = .ok (.aload_n 0, 1) := by decide +kernel
theorem dX9_lose_24 : decode cX9_lose 24 = .ok (.getfield 58, 3) := by decide +kernel
theorem dX9_lose_27 : decode cX9_lose 27 = .ok (.iload_n 2, 1) := by decide +kernel
theorem dX9_lose_28 : decode cX9_lose 28 = .ok (.iaload, 1) := by decide +kernel
theorem dX9_lose_29 : decode cX9_lose 29 = .ok (.iload_n 1, 1) := by decide +kernel
theorem dX9_lose_30 : decode cX9_lose 30 = .ok (.if_icmp .ne 5, 3) := by decide +kernel
theorem dX9_lose_33 : decode cX9_lose 33 = .ok (.iconst (-1), 1) := by decide +kernel
theorem dX9_lose_34 : decode cX9_lose 34 = .ok (.ireturn, 1) := by decide +kernel
theorem dX9_lose_35 : decode cX9_lose 35 = .ok (.iinc 2 1, 3) := by decide +kernel
theorem dX9_lose_38 : decode cX9_lose 38 = .ok (.goto (-23), 3) := by decide +kernel
theorem dX9_lose_41 : decode cX9_lose 41 = .ok (.aload_n 0, 1) := by decide +kernel
theorem dX9_lose_42 : decode cX9_lose 42 = .ok (.getfield 160, 3) := by decide +kernel
theorem dX9_lose_45 : decode cX9_lose 45 = .ok (.bipush 8, 2) := by decide +kernel
theorem dX9_lose_47 : decode cX9_lose 47 = .ok (.if_icmp .ne 6, 3) := by decide +kernel
theorem dX9_lose_50 : decode cX9_lose 50 = .ok (.bipush (-3), 2) := by decide +kernel
theorem dX9_lose_52 : decode cX9_lose 52 = .ok (.ireturn, 1) := by decide +kernel
theorem dX9_lose_53 : decode cX9_lose 53 = .ok (.aload_n 0, 1) := by decide +kernel
theorem dX9_lose_54 : decode cX9_lose 54 = .ok (.getfield 58, 3) := by decide +kernel
theorem dX9_lose_57 : decode cX9_lose 57 = .ok (.aload_n 0, 1) := by decide +kernel
theorem dX9_lose_58 : decode cX9_lose 58 = .ok (.getfield 160, 3) := by decide +kernel
theorem dX9_lose_61 : decode cX9_lose 61 = .ok (.iload_n 1, 1) := by decide +kernel
theorem dX9_lose_62 : decode cX9_lose 62 = .ok (.iastore, 1) := by decide +kernel
theorem dX9_lose_63 : decode cX9_lose 63 = .ok (.aload_n 0, 1) := by decide +kernel
theorem dX9_lose_64 : decode cX9_lose 64 = .ok (.dup, 1) := by decide +kernel
theorem dX9_lose_65 : decode cX9_lose 65 = .ok (.getfield 160, 3) := by decide +kernel
theorem dX9_lose_68 : decode cX9_lose 68 = .ok (.iconst 1, 1) := by decide +kernel
theorem dX9_lose_69 : decode cX9_lose 69 = .ok (.iadd, 1) := by decide +kernel
theorem dX9_lose_70 : decode cX9_lose 70 = .ok (.putfield 160, 3) := by decide +kernel
theorem dX9_lose_73 : decode cX9_lose 73 = .ok (.aload_n 0, 1) := by decide +kernel
theorem dX9_lose_74 : decode cX9_lose 74 = .ok (.getfield 160, 3) := by decide +kernel
theorem dX9_lose_77 : decode cX9_lose 77 = .ok (.ireturn, 1) := by decide +kernel
theorem dX9_cut_0 : decode cX9_cut 0 = .ok (.aload_n 0, 1) := by decide +kernel
theorem dX9_cut_1 : decode cX9_cut 1 = .ok (.getfield 94, 3) := by decide +kernel
theorem dX9_cut_4 : decode cX9_cut 4 = .ok (.iconst 1, 1) := by decide +kernel
theorem dX9_cut_5 : decode cX9_cut 5 = .ok (.if_icmp .eq 6, 3) := by decide +kernel
theorem dX9_cut_8 : decode cX9_cut 8 = .ok (.bipush (-2), 2) := by decide +kernel
theorem dX9_cut_10 : decode cX9_cut 10 = .ok (.ireturn, 1) := by decide +kernel
theorem dX9_cut_11 : decode cX9_cut 11 = .ok (.aload_n 0, 1) := by decide +kernel
theorem dX9_cut_12 : decode cX9_cut 12 = .ok (.iconst 3, 1) := by decide +kernel
theorem dX9_cut_13 : decode cX9_cut 13 = .ok (.putfield 94, 3) := by decide +kernel
theorem dX9_cut_16 : decode cX9_cut 16 = .ok (.aload_n 0, 1) := by decide +kernel
theorem dX9_cut_17 : decode cX9_cut 17 = .ok (.iconst 0, 1) := by decide +kernel
theorem dX9_cut_18 : decode cX9_cut 18 = .ok (.putfield 119, 3) := by decide +kernel
theorem dX9_cut_21 : decode cX9_cut 21 = .ok (.aload_n 0, 1) := by decide +kernel
theorem dX9_cut_22 : decode cX9_cut 22 = .ok (.getfield 24, 3) := by decide +kernel
theorem dX9_cut_25 : decode cX9_cut 25 = .ok (.iconst 1, 1) := by decide +kernel
theorem dX9_cut_26 : decode cX9_cut 26 = .ok (.iaload, 1) := by decide +kernel
theorem dX9_cut_27 : decode cX9_cut 27 = .ok (.ireturn, 1) := by decide +kernel
theorem dX9_state_0 : decode cX9_state 0 = .ok (.iload_n 1, 1) := by decide +kernel
theorem dX9_state_1 : decode cX9_state 1 = .ok (.ifCond .lt 9, 3) := by decide +kernel
theorem dX9_state_4 : decode cX9_state 4 = .ok (.iload_n 1, 1) := by decide +kernel
theorem dX9_state_5 : decode cX9_state 5 = .ok (.bipush 15, 2) := by decide +kernel
theorem dX9_state_7 : decode cX9_state 7 = .ok (.if_icmp .le 5, 3) := by decide +kernel
theorem dX9_state_10 : decode cX9_state 10 = .ok (.iconst (-1), 1) := by decide +kernel
theorem dX9_state_11 : decode cX9_state 11 = .ok (.ireturn, 1) := by decide +kernel
theorem dX9_state_12 : decode cX9_state 12 = .ok (.iconst 0, 1) := by decide +kernel
theorem dX9_state_13 : decode cX9_state 13 = .ok (.istore_n 2, 1) := by decide +kernel
theorem dX9_state_14 : decode cX9_state 14 = .ok (.iconst 0, 1) := by decide +kernel
theorem dX9_state_15 : decode cX9_state 15 = .ok (.istore_n 3, 1) := by decide +kernel
theorem dX9_state_16 : decode cX9_state 16 = .ok (.iload_n 3, 1) := by decide +kernel
theorem dX9_state_17 : decode cX9_state 17 = .ok (.bipush 8, 2) := by decide +kernel
theorem dX9_state_19 : decode cX9_state 19 = .ok (.if_icmp .ge 26, 3) := by decide +kernel
theorem dX9_state_22 : decode cX9_state 22 = .ok (.iload_n 2, 1) := by decide +kernel
theorem dX9_state_23 : decode cX9_state 23 = .ok (.aload_n 0, 1) := by decide +kernel
theorem dX9_state_24 : decode cX9_state 24 = .ok (.getfield 33, 3) := by decide +kernel
theorem dX9_state_27 : decode cX9_state 27 = .ok (.iload_n 3, 1) := by decide +kernel
theorem dX9_state_28 : decode cX9_state 28 = .ok (.baload, 1) := by decide +kernel
theorem dX9_state_29 : decode cX9_state 29 = .ok (.ifCond .eq 7, 3) := by decide +kernel
theorem dX9_state_32 : decode cX9_state 32 = .ok (.iconst 1, 1) := by decide +kernel
theorem dX9_state_33 : decode cX9_state 33 = .ok (.goto 4, 3) := by decide +kernel
theorem dX9_state_36 : decode cX9_state 36 = .ok (.iconst 0, 1) := by decide +kernel
theorem dX9_state_37 : decode cX9_state 37 = .ok (.iadd, 1) := by decide +kernel
theorem dX9_state_38 : decode cX9_state 38 = .ok (.istore_n 2, 1) := by decide +kernel
theorem dX9_state_39 : decode cX9_state 39 = .ok (.iinc 3 1, 3) := by decide +kernel
theorem dX9_state_42 : decode cX9_state 42 = .ok (.goto (-26), 3) := by decide +kernel
theorem dX9_state_45 : decode cX9_state 45 = .ok (.iload_n 1, 1) := by decide +kernel
theorem dX9_state_46 : decode cX9_state 46 = .ok (.ifCond .ne 10, 3) := by decide +kernel
theorem dX9_state_49 : decode cX9_state 49 = .ok (.aload_n 0, 1) := by decide +kernel
theorem dX9_state_50 : decode cX9_state 50 = .ok (.getfield 94, 3) := by decide +kernel
theorem dX9_state_53 : decode cX9_state 53 = .ok (.goto 62, 3) := by decide +kernel
theorem dX9_state_56 : decode cX9_state 56 = .ok (.iload_n 1, 1) := by decide +kernel
theorem dX9_state_57 : decode cX9_state 57 = .ok (.iconst 4, 1) := by decide +kernel
theorem dX9_state_58 : decode cX9_state 58 = .ok (.if_icmp .ne 7, 3) := by decide +kernel
theorem dX9_state_61 : decode cX9_state 61 = .ok (.iload_n 2, 1) := by decide +kernel
theorem dX9_state_62 : decode cX9_state 62 = .ok (.goto 53, 3) := by decide +kernel
theorem dX9_state_65 : decode cX9_state 65 = .ok (.iload_n 1, 1) := by decide +kernel
theorem dX9_state_66 : decode cX9_state 66 = .ok (.bipush 13, 2) := by decide +kernel
theorem dX9_state_68 : decode cX9_state 68 = .ok (.if_icmp .ne 10, 3) := by decide +kernel
theorem dX9_state_71 : decode cX9_state 71 = .ok (.aload_n 0, 1) := by decide +kernel
theorem dX9_state_72 : decode cX9_state 72 = .ok (.getfield 119, 3) := by decide +kernel
theorem dX9_state_75 : decode cX9_state 75 = .ok (.goto 40, 3) := by decide +kernel
theorem dX9_state_78 : decode cX9_state 78 = .ok (.iload_n 1, 1) := by decide +kernel
theorem dX9_state_79 : decode cX9_state 79 = .ok (.bipush 15, 2) := by decide +kernel
theorem dX9_state_81 : decode cX9_state 81 = .ok (.if_icmp .ne 10, 3) := by decide +kernel
theorem dX9_state_84 : decode cX9_state 84 = .ok (.aload_n 0, 1) := by decide +kernel
theorem dX9_state_85 : decode cX9_state 85 = .ok (.getfield 106, 3) := by decide +kernel
theorem dX9_state_88 : decode cX9_state 88 = .ok (.goto 27, 3) := by decide +kernel
theorem dX9_state_91 : decode cX9_state 91 = .ok (.iload_n 1, 1) := by decide +kernel
theorem dX9_state_92 : decode cX9_state 92 = .ok (.bipush 14, 2) := by decide +kernel
theorem dX9_state_94 : decode cX9_state 94 = .ok (.if_icmp .ne 15, 3) := by decide +kernel
theorem dX9_state_97 : decode cX9_state 97 = .ok (.aload_n 0, 1) := by decide +kernel
theorem dX9_state_98 : decode cX9_state 98 = .ok (.getfield 94, 3) := by decide +kernel
theorem dX9_state_101 : decode cX9_state 101 = .ok (.ifCond .ne 8, 3) := by decide +kernel
theorem dX9_state_104 : decode cX9_state 104 = .ok (.bipush (-2), 2) := by decide +kernel
theorem dX9_state_106 : decode cX9_state 106 = .ok (.goto 9, 3) := by decide +kernel
theorem dX9_state_109 : decode cX9_state 109 = .ok (.aload_n 0, 1) := by decide +kernel
theorem dX9_state_110 : decode cX9_state 110 = .ok (.getfield 24, 3) := by decide +kernel
theorem dX9_state_113 : decode cX9_state 113 = .ok (.iload_n 1, 1) := by decide +kernel
theorem dX9_state_114 : decode cX9_state 114 = .ok (.iaload, 1) := by decide +kernel
theorem dX9_state_115 : decode cX9_state 115 = .ok (.ireturn, 1) := by decide +kernel
theorem dX9_sent_0 : decode cX9_sent 0 = .ok (.iload_n 1, 1) := by decide +kernel
theorem dX9_sent_1 : decode cX9_sent 1 = .ok (.ifCond .eq 8, 3) := by decide +kernel
theorem dX9_sent_4 : decode cX9_sent 4 = .ok (.iload_n 1, 1) := by decide +kernel
theorem dX9_sent_5 : decode cX9_sent 5 = .ok (.iconst 1, 1) := by decide +kernel
theorem dX9_sent_6 : decode cX9_sent 6 = .ok (.if_icmp .ne 12, 3) := by decide +kernel
theorem dX9_sent_9 : decode cX9_sent 9 = .ok (.aload_n 0, 1) := by decide +kernel
theorem dX9_sent_10 : decode cX9_sent 10 = .ok (.getfield 27, 3) := by decide +kernel
theorem dX9_sent_13 : decode cX9_sent 13 = .ok (.iload_n 1, 1) := by decide +kernel
theorem dX9_sent_14 : decode cX9_sent 14 = .ok (.laload, 1) := by decide +kernel
theorem dX9_sent_15 : decode cX9_sent 15 = .ok (.goto 6, 3) := by decide +kernel
theorem dX9_sent_18 : decode cX9_sent 18 = .ok (.ldc2_w 85, 3) := by decide +kernel
theorem dX9_sent_21 : decode cX9_sent 21 = .ok (.lreturn, 1) := by decide +kernel
theorem dX9_built_0 : decode cX9_built 0 = .ok (.iload_n 1, 1) := by decide +kernel
theorem dX9_built_1 : decode cX9_built 1 = .ok (.ifCond .lt 24, 3) := by decide +kernel
theorem dX9_built_4 : decode cX9_built 4 = .ok (.iload_n 1, 1) := by decide +kernel
theorem dX9_built_5 : decode cX9_built 5 = .ok (.aload_n 0, 1) := by decide +kernel
theorem dX9_built_6 : decode cX9_built 6 = .ok (.getfield 119, 3) := by decide +kernel
theorem dX9_built_9 : decode cX9_built 9 = .ok (.if_icmp .ge 16, 3) := by decide +kernel
theorem dX9_built_12 : decode cX9_built 12 = .ok (.aload_n 0, 1) := by decide +kernel
theorem dX9_built_13 : decode cX9_built 13 = .ok (.getfield 40, 3) := by decide +kernel
theorem dX9_built_16 : decode cX9_built 16 = .ok (.iload_n 1, 1) := by decide +kernel
theorem dX9_built_17 : decode cX9_built 17 = .ok (.baload, 1) := by decide +kernel
theorem dX9_built_18 : decode cX9_built 18 = .ok (.sipush 255, 3) := by decide +kernel
theorem dX9_built_21 : decode cX9_built 21 = .ok (.iand, 1) := by decide +kernel
theorem dX9_built_22 : decode cX9_built 22 = .ok (.goto 4, 3) := by decide +kernel
theorem dX9_built_25 : decode cX9_built 25 = .ok (.iconst (-1), 1) := by decide +kernel
theorem dX9_built_26 : decode cX9_built 26 = .ok (.ireturn, 1) := by decide +kernel
theorem dX9_sums_0 : decode cX9_sums 0 = .ok (.iload_n 1, 1) := by decide +kernel
theorem dX9_sums_1 : decode cX9_sums 1 = .ok (.ifCond .lt 20, 3) := by decide +kernel
theorem dX9_sums_4 : decode cX9_sums 4 = .ok (.iload_n 1, 1) := by decide +kernel
theorem dX9_sums_5 : decode cX9_sums 5 = .ok (.aload_n 0, 1) := by decide +kernel
theorem dX9_sums_6 : decode cX9_sums 6 = .ok (.getfield 209, 3) := by decide +kernel
theorem dX9_sums_9 : decode cX9_sums 9 = .ok (.if_icmp .ge 12, 3) := by decide +kernel
theorem dX9_sums_12 : decode cX9_sums 12 = .ok (.iload_n 2, 1) := by decide +kernel
theorem dX9_sums_13 : decode cX9_sums 13 = .ok (.ifCond .lt 8, 3) := by decide +kernel
theorem dX9_sums_16 : decode cX9_sums 16 = .ok (.iload_n 2, 1) := by decide +kernel
theorem dX9_sums_17 : decode cX9_sums 17 = .ok (.iconst 1, 1) := by decide +kernel
theorem dX9_sums_18 : decode cX9_sums 18 = .ok (.if_icmp .le 7, 3) := by decide +kernel
theorem dX9_sums_21 : decode cX9_sums 21 = .ok (.ldc2_w 85, 3) := by decide +kernel
theorem dX9_sums_24 : decode cX9_sums 24 = .ok (.lreturn, 1) := by decide +kernel
theorem dX9_sums_25 : decode cX9_sums 25 = .ok (.iload_n 2, 1) := by decide +kernel
theorem dX9_sums_26 : decode cX9_sums 26 = .ok (.ifCond .ne 12, 3) := by decide +kernel
theorem dX9_sums_29 : decode cX9_sums 29 = .ok (.aload_n 0, 1) := by decide +kernel
theorem dX9_sums_30 : decode cX9_sums 30 = .ok (.getfield 52, 3) := by decide +kernel
theorem dX9_sums_33 : decode cX9_sums 33 = .ok (.iload_n 1, 1) := by decide +kernel
theorem dX9_sums_34 : decode cX9_sums 34 = .ok (.laload, 1) := by decide +kernel
theorem dX9_sums_35 : decode cX9_sums 35 = .ok (.goto 9, 3) := by decide +kernel
theorem dX9_sums_38 : decode cX9_sums 38 = .ok (.aload_n 0, 1) := by decide +kernel
theorem dX9_sums_39 : decode cX9_sums 39 = .ok (.getfield 55, 3) := by decide +kernel
theorem dX9_sums_42 : decode cX9_sums 42 = .ok (.iload_n 1, 1) := by decide +kernel
theorem dX9_sums_43 : decode cX9_sums 43 = .ok (.laload, 1) := by decide +kernel
theorem dX9_sums_44 : decode cX9_sums 44 = .ok (.lreturn, 1) := by decide +kernel
theorem dJ13_bitCount_95d88_0 : decode cJ13_bitCount_95d88 0 = .ok (.lload_n 0, 1) := by decide +kernel
theorem dJ13_bitCount_95d88_1 : decode cJ13_bitCount_95d88 1 = .ok (.lload_n 0, 1) := by decide +kernel
theorem dJ13_bitCount_95d88_2 : decode cJ13_bitCount_95d88 2 = .ok (.iconst 1, 1) := by decide +kernel
theorem dJ13_bitCount_95d88_3 : decode cJ13_bitCount_95d88 3 = .ok (.lushr, 1) := by decide +kernel
theorem dJ13_bitCount_95d88_4 : decode cJ13_bitCount_95d88 4 = .ok (.ldc2_w 314, 3) := by decide +kernel
theorem dJ13_bitCount_95d88_7 : decode cJ13_bitCount_95d88 7 = .ok (.land, 1) := by decide +kernel
theorem dJ13_bitCount_95d88_8 : decode cJ13_bitCount_95d88 8 = .ok (.lsub, 1) := by decide +kernel
theorem dJ13_bitCount_95d88_9 : decode cJ13_bitCount_95d88 9 = .ok (.lstore_n 0, 1) := by decide +kernel
theorem dJ13_bitCount_95d88_10 : decode cJ13_bitCount_95d88 10 = .ok (.lload_n 0, 1) := by decide +kernel
theorem dJ13_bitCount_95d88_11 : decode cJ13_bitCount_95d88 11 = .ok (.ldc2_w 316, 3) := by decide +kernel
theorem dJ13_bitCount_95d88_14 : decode cJ13_bitCount_95d88 14 = .ok (.land, 1) := by decide +kernel
theorem dJ13_bitCount_95d88_15 : decode cJ13_bitCount_95d88 15 = .ok (.lload_n 0, 1) := by decide +kernel
theorem dJ13_bitCount_95d88_16 : decode cJ13_bitCount_95d88 16 = .ok (.iconst 2, 1) := by decide +kernel
theorem dJ13_bitCount_95d88_17 : decode cJ13_bitCount_95d88 17 = .ok (.lushr, 1) := by decide +kernel
theorem dJ13_bitCount_95d88_18 : decode cJ13_bitCount_95d88 18 = .ok (.ldc2_w 316, 3) := by decide +kernel
theorem dJ13_bitCount_95d88_21 : decode cJ13_bitCount_95d88 21 = .ok (.land, 1) := by decide +kernel
theorem dJ13_bitCount_95d88_22 : decode cJ13_bitCount_95d88 22 = .ok (.ladd, 1) := by decide +kernel
theorem dJ13_bitCount_95d88_23 : decode cJ13_bitCount_95d88 23 = .ok (.lstore_n 0, 1) := by decide +kernel
theorem dJ13_bitCount_95d88_24 : decode cJ13_bitCount_95d88 24 = .ok (.lload_n 0, 1) := by decide +kernel
theorem dJ13_bitCount_95d88_25 : decode cJ13_bitCount_95d88 25 = .ok (.lload_n 0, 1) := by decide +kernel
theorem dJ13_bitCount_95d88_26 : decode cJ13_bitCount_95d88 26 = .ok (.iconst 4, 1) := by decide +kernel
theorem dJ13_bitCount_95d88_27 : decode cJ13_bitCount_95d88 27 = .ok (.lushr, 1) := by decide +kernel
theorem dJ13_bitCount_95d88_28 : decode cJ13_bitCount_95d88 28 = .ok (.ladd, 1) := by decide +kernel
theorem dJ13_bitCount_95d88_29 : decode cJ13_bitCount_95d88 29 = .ok (.ldc2_w 318, 3) := by decide +kernel
theorem dJ13_bitCount_95d88_32 : decode cJ13_bitCount_95d88 32 = .ok (.land, 1) := by decide +kernel
theorem dJ13_bitCount_95d88_33 : decode cJ13_bitCount_95d88 33 = .ok (.lstore_n 0, 1) := by decide +kernel
theorem dJ13_bitCount_95d88_34 : decode cJ13_bitCount_95d88 34 = .ok (.lload_n 0, 1) := by decide +kernel
theorem dJ13_bitCount_95d88_35 : decode cJ13_bitCount_95d88 35 = .ok (.lload_n 0, 1) := by decide +kernel
theorem dJ13_bitCount_95d88_36 : decode cJ13_bitCount_95d88 36 = .ok (.bipush 8, 2) := by decide +kernel
theorem dJ13_bitCount_95d88_38 : decode cJ13_bitCount_95d88 38 = .ok (.lushr, 1) := by decide +kernel
theorem dJ13_bitCount_95d88_39 : decode cJ13_bitCount_95d88 39 = .ok (.ladd, 1) := by decide +kernel
theorem dJ13_bitCount_95d88_40 : decode cJ13_bitCount_95d88 40 = .ok (.lstore_n 0, 1) := by decide +kernel
theorem dJ13_bitCount_95d88_41 : decode cJ13_bitCount_95d88 41 = .ok (.lload_n 0, 1) := by decide +kernel
theorem dJ13_bitCount_95d88_42 : decode cJ13_bitCount_95d88 42 = .ok (.lload_n 0, 1) := by decide +kernel
theorem dJ13_bitCount_95d88_43 : decode cJ13_bitCount_95d88 43 = .ok (.bipush 16, 2) := by decide +kernel
theorem dJ13_bitCount_95d88_45 : decode cJ13_bitCount_95d88 45 = .ok (.lushr, 1) := by decide +kernel
theorem dJ13_bitCount_95d88_46 : decode cJ13_bitCount_95d88 46 = .ok (.ladd, 1) := by decide +kernel
theorem dJ13_bitCount_95d88_47 : decode cJ13_bitCount_95d88 47 = .ok (.lstore_n 0, 1) := by decide +kernel
theorem dJ13_bitCount_95d88_48 : decode cJ13_bitCount_95d88 48 = .ok (.lload_n 0, 1) := by decide +kernel
theorem dJ13_bitCount_95d88_49 : decode cJ13_bitCount_95d88 49 = .ok (.lload_n 0, 1) := by decide +kernel
theorem dJ13_bitCount_95d88_50 : decode cJ13_bitCount_95d88 50 = .ok (.bipush 32, 2) := by decide +kernel
theorem dJ13_bitCount_95d88_52 : decode cJ13_bitCount_95d88 52 = .ok (.lushr, 1) := by decide +kernel
theorem dJ13_bitCount_95d88_53 : decode cJ13_bitCount_95d88 53 = .ok (.ladd, 1) := by decide +kernel
theorem dJ13_bitCount_95d88_54 : decode cJ13_bitCount_95d88 54 = .ok (.lstore_n 0, 1) := by decide +kernel
theorem dJ13_bitCount_95d88_55 : decode cJ13_bitCount_95d88 55 = .ok (.lload_n 0, 1) := by decide +kernel
theorem dJ13_bitCount_95d88_56 : decode cJ13_bitCount_95d88 56 = .ok (.l2i, 1) := by decide +kernel
theorem dJ13_bitCount_95d88_57 : decode cJ13_bitCount_95d88 57 = .ok (.bipush 127, 2) := by decide +kernel
theorem dJ13_bitCount_95d88_59 : decode cJ13_bitCount_95d88 59 = .ok (.iand, 1) := by decide +kernel
theorem dJ13_bitCount_95d88_60 : decode cJ13_bitCount_95d88 60 = .ok (.ireturn, 1) := by decide +kernel
theorem dJ9_max_7cf53_0 : decode cJ9_max_7cf53 0 = .ok (.iload_n 0, 1) := by decide +kernel
theorem dJ9_max_7cf53_1 : decode cJ9_max_7cf53 1 = .ok (.iload_n 1, 1) := by decide +kernel
theorem dJ9_max_7cf53_2 : decode cJ9_max_7cf53 2 = .ok (.if_icmp .lt 7, 3) := by decide +kernel
theorem dJ9_max_7cf53_5 : decode cJ9_max_7cf53 5 = .ok (.iload_n 0, 1) := by decide +kernel
theorem dJ9_max_7cf53_6 : decode cJ9_max_7cf53 6 = .ok (.goto 4, 3) := by decide +kernel
theorem dJ9_max_7cf53_9 : decode cJ9_max_7cf53 9 = .ok (.iload_n 1, 1) := by decide +kernel
theorem dJ9_max_7cf53_10 : decode cJ9_max_7cf53 10 = .ok (.ireturn, 1) := by decide +kernel
theorem dJ9_min_7cf53_0 : decode cJ9_min_7cf53 0 = .ok (.iload_n 0, 1) := by decide +kernel
theorem dJ9_min_7cf53_1 : decode cJ9_min_7cf53 1 = .ok (.iload_n 1, 1) := by decide +kernel
theorem dJ9_min_7cf53_2 : decode cJ9_min_7cf53 2 = .ok (.if_icmp .gt 7, 3) := by decide +kernel
theorem dJ9_min_7cf53_5 : decode cJ9_min_7cf53 5 = .ok (.iload_n 0, 1) := by decide +kernel
theorem dJ9_min_7cf53_6 : decode cJ9_min_7cf53 6 = .ok (.goto 4, 3) := by decide +kernel
theorem dJ9_min_7cf53_9 : decode cJ9_min_7cf53 9 = .ok (.iload_n 1, 1) := by decide +kernel
theorem dJ9_min_7cf53_10 : decode cJ9_min_7cf53 10 = .ok (.ireturn, 1) := by decide +kernel
theorem dL_law_0 : decode cL_law 0 = .ok (.new 7, 3) := by decide +kernel
theorem dL_law_3 : decode cL_law 3 = .ok (.dup, 1) := by decide +kernel
theorem dL_law_4 : decode cL_law 4 = .ok (.invokespecial 9, 3) := by decide +kernel
theorem dL_law_7 : decode cL_law 7 = .ok (.astore_n 1, 1) := by decide +kernel
theorem dL_law_8 : decode cL_law 8 = .ok (.new 10, 3) := by decide +kernel
theorem dL_law_11 : decode cL_law 11 = .ok (.dup, 1) := by decide +kernel
theorem dL_law_12 : decode cL_law 12 = .ok (.invokespecial 12, 3) := by decide +kernel
theorem dL_law_15 : decode cL_law 15 = .ok (.astore_n 2, 1) := by decide +kernel
theorem dL_law_16 : decode cL_law 16 = .ok (.iconst 0, 1) := by decide +kernel
theorem dL_law_17 : decode cL_law 17 = .ok (.istore_n 3, 1) := by decide +kernel
theorem dL_law_18 : decode cL_law 18 = .ok (.iload_n 3, 1) := by decide +kernel
theorem dL_law_19 : decode cL_law 19 = .ok (.aload_n 0, 1) := by decide +kernel
theorem dL_law_20 : decode cL_law 20 = .ok (.arraylength, 1) := by decide +kernel
theorem dL_law_21 : decode cL_law 21 = .ok (.bipush 7, 2) := by decide +kernel
theorem dL_law_23 : decode cL_law 23 = .ok (.isub, 1) := by decide +kernel
theorem dL_law_24 : decode cL_law 24 = .ok (.if_icmp .gt 735, 3) := by decide +kernel
theorem dL_law_27 : decode cL_law 27 = .ok (.aload_n 0, 1) := by decide +kernel
theorem dL_law_28 : decode cL_law 28 = .ok (.iload_n 3, 1) := by decide +kernel
theorem dL_law_29 : decode cL_law 29 = .ok (.iaload, 1) := by decide +kernel
theorem dL_law_30 : decode cL_law 30 = .ok (.bipush 31, 2) := by decide +kernel
theorem dL_law_32 : decode cL_law 32 = .ok (.iand, 1) := by decide +kernel
theorem dL_law_33 : decode cL_law 33 = .ok (.tableswitch 720 0 16 #[83, 178, 231, 274, 307, 340, 383, 416, 450, 503, 526, 549, 562, 585, 609, 632, 666], 83) := by decide +kernel
theorem dL_law_116 : decode cL_law 116 = .ok (.aload_n 1, 1) := by decide +kernel
theorem dL_law_117 : decode cL_law 117 = .ok (.aload_n 0, 1) := by decide +kernel
theorem dL_law_118 : decode cL_law 118 = .ok (.iload_n 3, 1) := by decide +kernel
theorem dL_law_119 : decode cL_law 119 = .ok (.iconst 1, 1) := by decide +kernel
theorem dL_law_120 : decode cL_law 120 = .ok (.iadd, 1) := by decide +kernel
theorem dL_law_121 : decode cL_law 121 = .ok (.iaload, 1) := by decide +kernel
theorem dL_law_122 : decode cL_law 122 = .ok (.aload_n 0, 1) := by decide +kernel
theorem dL_law_123 : decode cL_law 123 = .ok (.iload_n 3, 1) := by decide +kernel
theorem dL_law_124 : decode cL_law 124 = .ok (.iconst 2, 1) := by decide +kernel
theorem dL_law_125 : decode cL_law 125 = .ok (.iadd, 1) := by decide +kernel
theorem dL_law_126 : decode cL_law 126 = .ok (.iaload, 1) := by decide +kernel
theorem dL_law_127 : decode cL_law 127 = .ok (.aload_n 0, 1) := by decide +kernel
theorem dL_law_128 : decode cL_law 128 = .ok (.iload_n 3, 1) := by decide +kernel
theorem dL_law_129 : decode cL_law 129 = .ok (.iconst 3, 1) := by decide +kernel
theorem dL_law_130 : decode cL_law 130 = .ok (.iadd, 1) := by decide +kernel
theorem dL_law_131 : decode cL_law 131 = .ok (.iaload, 1) := by decide +kernel
theorem dL_law_132 : decode cL_law 132 = .ok (.aload_n 0, 1) := by decide +kernel
theorem dL_law_133 : decode cL_law 133 = .ok (.iload_n 3, 1) := by decide +kernel
theorem dL_law_134 : decode cL_law 134 = .ok (.iconst 4, 1) := by decide +kernel
theorem dL_law_135 : decode cL_law 135 = .ok (.iadd, 1) := by decide +kernel
theorem dL_law_136 : decode cL_law 136 = .ok (.iaload, 1) := by decide +kernel
theorem dL_law_137 : decode cL_law 137 = .ok (.i2l, 1) := by decide +kernel
theorem dL_law_138 : decode cL_law 138 = .ok (.bipush 32, 2) := by decide +kernel
theorem dL_law_140 : decode cL_law 140 = .ok (.lshl, 1) := by decide +kernel
theorem dL_law_141 : decode cL_law 141 = .ok (.aload_n 0, 1) := by decide +kernel
theorem dL_law_142 : decode cL_law 142 = .ok (.iload_n 3, 1) := by decide +kernel
theorem dL_law_143 : decode cL_law 143 = .ok (.iconst 5, 1) := by decide +kernel
theorem dL_law_144 : decode cL_law 144 = .ok (.iadd, 1) := by decide +kernel
theorem dL_law_145 : decode cL_law 145 = .ok (.iaload, 1) := by decide +kernel
theorem dL_law_146 : decode cL_law 146 = .ok (.i2l, 1) := by decide +kernel
theorem dL_law_147 : decode cL_law 147 = .ok (.ldc2_w 13, 3) := by decide +kernel
theorem dL_law_150 : decode cL_law 150 = .ok (.land, 1) := by decide +kernel
theorem dL_law_151 : decode cL_law 151 = .ok (.lor, 1) := by decide +kernel
theorem dL_law_152 : decode cL_law 152 = .ok (.aload_n 0, 1) := by decide +kernel
theorem dL_law_153 : decode cL_law 153 = .ok (.iload_n 3, 1) := by decide +kernel
theorem dL_law_154 : decode cL_law 154 = .ok (.bipush 6, 2) := by decide +kernel
theorem dL_law_156 : decode cL_law 156 = .ok (.iadd, 1) := by decide +kernel
theorem dL_law_157 : decode cL_law 157 = .ok (.iaload, 1) := by decide +kernel
theorem dL_law_158 : decode cL_law 158 = .ok (.invokevirtual 15, 3) := by decide +kernel
theorem dL_law_161 : decode cL_law 161 = .ok (.aload_n 2, 1) := by decide +kernel
theorem dL_law_162 : decode cL_law 162 = .ok (.aload_n 0, 1) := by decide +kernel
theorem dL_law_163 : decode cL_law 163 = .ok (.iload_n 3, 1) := by decide +kernel
theorem dL_law_164 : decode cL_law 164 = .ok (.iconst 1, 1) := by decide +kernel
theorem dL_law_165 : decode cL_law 165 = .ok (.iadd, 1) := by decide +kernel
theorem dL_law_166 : decode cL_law 166 = .ok (.iaload, 1) := by decide +kernel
theorem dL_law_167 : decode cL_law 167 = .ok (.aload_n 0, 1) := by decide +kernel
theorem dL_law_168 : decode cL_law 168 = .ok (.iload_n 3, 1) := by decide +kernel
theorem dL_law_169 : decode cL_law 169 = .ok (.iconst 2, 1) := by decide +kernel
theorem dL_law_170 : decode cL_law 170 = .ok (.iadd, 1) := by decide +kernel
theorem dL_law_171 : decode cL_law 171 = .ok (.iaload, 1) := by decide +kernel
theorem dL_law_172 : decode cL_law 172 = .ok (.aload_n 0, 1) := by decide +kernel
theorem dL_law_173 : decode cL_law 173 = .ok (.iload_n 3, 1) := by decide +kernel
theorem dL_law_174 : decode cL_law 174 = .ok (.iconst 3, 1) := by decide +kernel
theorem dL_law_175 : decode cL_law 175 = .ok (.iadd, 1) := by decide +kernel
theorem dL_law_176 : decode cL_law 176 = .ok (.iaload, 1) := by decide +kernel
theorem dL_law_177 : decode cL_law 177 = .ok (.aload_n 0, 1) := by decide +kernel
theorem dL_law_178 : decode cL_law 178 = .ok (.iload_n 3, 1) := by decide +kernel
theorem dL_law_179 : decode cL_law 179 = .ok (.iconst 4, 1) := by decide +kernel
theorem dL_law_180 : decode cL_law 180 = .ok (.iadd, 1) := by decide +kernel
theorem dL_law_181 : decode cL_law 181 = .ok (.iaload, 1) := by decide +kernel
theorem dL_law_182 : decode cL_law 182 = .ok (.i2l, 1) := by decide +kernel
theorem dL_law_183 : decode cL_law 183 = .ok (.bipush 32, 2) := by decide +kernel
theorem dL_law_185 : decode cL_law 185 = .ok (.lshl, 1) := by decide +kernel
theorem dL_law_186 : decode cL_law 186 = .ok (.aload_n 0, 1) := by decide +kernel
theorem dL_law_187 : decode cL_law 187 = .ok (.iload_n 3, 1) := by decide +kernel
theorem dL_law_188 : decode cL_law 188 = .ok (.iconst 5, 1) := by decide +kernel
theorem dL_law_189 : decode cL_law 189 = .ok (.iadd, 1) := by decide +kernel
theorem dL_law_190 : decode cL_law 190 = .ok (.iaload, 1) := by decide +kernel
theorem dL_law_191 : decode cL_law 191 = .ok (.i2l, 1) := by decide +kernel
theorem dL_law_192 : decode cL_law 192 = .ok (.ldc2_w 13, 3) := by decide +kernel
theorem dL_law_195 : decode cL_law 195 = .ok (.land, 1) := by decide +kernel
theorem dL_law_196 : decode cL_law 196 = .ok (.lor, 1) := by decide +kernel
theorem dL_law_197 : decode cL_law 197 = .ok (.aload_n 0, 1) := by decide +kernel
theorem dL_law_198 : decode cL_law 198 = .ok (.iload_n 3, 1) := by decide +kernel
theorem dL_law_199 : decode cL_law 199 = .ok (.bipush 6, 2) := by decide +kernel
theorem dL_law_201 : decode cL_law 201 = .ok (.iadd, 1) := by decide +kernel
theorem dL_law_202 : decode cL_law 202 = .ok (.iaload, 1) := by decide +kernel
theorem dL_law_203 : decode cL_law 203 = .ok (.invokevirtual 19, 3) := by decide +kernel
theorem dL_law_206 : decode cL_law 206 = .ok (.if_icmp .eq 547, 3) := by decide +kernel
theorem dL_law_209 : decode cL_law 209 = .ok (.iconst 0, 1) := by decide +kernel
theorem dL_law_210 : decode cL_law 210 = .ok (.ireturn, 1) := by decide +kernel
theorem dL_law_211 : decode cL_law 211 = .ok (.aload_n 1, 1) := by decide +kernel
theorem dL_law_212 : decode cL_law 212 = .ok (.aload_n 0, 1) := by decide +kernel
theorem dL_law_213 : decode cL_law 213 = .ok (.iload_n 3, 1) := by decide +kernel
theorem dL_law_214 : decode cL_law 214 = .ok (.iconst 1, 1) := by decide +kernel
theorem dL_law_215 : decode cL_law 215 = .ok (.iadd, 1) := by decide +kernel
theorem dL_law_216 : decode cL_law 216 = .ok (.iaload, 1) := by decide +kernel
theorem dL_law_217 : decode cL_law 217 = .ok (.aload_n 0, 1) := by decide +kernel
theorem dL_law_218 : decode cL_law 218 = .ok (.iload_n 3, 1) := by decide +kernel
theorem dL_law_219 : decode cL_law 219 = .ok (.iconst 2, 1) := by decide +kernel
theorem dL_law_220 : decode cL_law 220 = .ok (.iadd, 1) := by decide +kernel
theorem dL_law_221 : decode cL_law 221 = .ok (.iaload, 1) := by decide +kernel
theorem dL_law_222 : decode cL_law 222 = .ok (.aload_n 0, 1) := by decide +kernel
theorem dL_law_223 : decode cL_law 223 = .ok (.iload_n 3, 1) := by decide +kernel
theorem dL_law_224 : decode cL_law 224 = .ok (.iconst 3, 1) := by decide +kernel
theorem dL_law_225 : decode cL_law 225 = .ok (.iadd, 1) := by decide +kernel
theorem dL_law_226 : decode cL_law 226 = .ok (.iaload, 1) := by decide +kernel
theorem dL_law_227 : decode cL_law 227 = .ok (.aload_n 0, 1) := by decide +kernel
theorem dL_law_228 : decode cL_law 228 = .ok (.iload_n 3, 1) := by decide +kernel
theorem dL_law_229 : decode cL_law 229 = .ok (.iconst 4, 1) := by decide +kernel
theorem dL_law_230 : decode cL_law 230 = .ok (.iadd, 1) := by decide +kernel
theorem dL_law_231 : decode cL_law 231 = .ok (.iaload, 1) := by decide +kernel
theorem dL_law_232 : decode cL_law 232 = .ok (.invokevirtual 20, 3) := by decide +kernel
theorem dL_law_235 : decode cL_law 235 = .ok (.aload_n 2, 1) := by decide +kernel
theorem dL_law_236 : decode cL_law 236 = .ok (.aload_n 0, 1) := by decide +kernel
theorem dL_law_237 : decode cL_law 237 = .ok (.iload_n 3, 1) := by decide +kernel
theorem dL_law_238 : decode cL_law 238 = .ok (.iconst 1, 1) := by decide +kernel
theorem dL_law_239 : decode cL_law 239 = .ok (.iadd, 1) := by decide +kernel
theorem dL_law_240 : decode cL_law 240 = .ok (.iaload, 1) := by decide +kernel
theorem dL_law_241 : decode cL_law 241 = .ok (.aload_n 0, 1) := by decide +kernel
theorem dL_law_242 : decode cL_law 242 = .ok (.iload_n 3, 1) := by decide +kernel
theorem dL_law_243 : decode cL_law 243 = .ok (.iconst 2, 1) := by decide +kernel
theorem dL_law_244 : decode cL_law 244 = .ok (.iadd, 1) := by decide +kernel
theorem dL_law_245 : decode cL_law 245 = .ok (.iaload, 1) := by decide +kernel
theorem dL_law_246 : decode cL_law 246 = .ok (.aload_n 0, 1) := by decide +kernel
theorem dL_law_247 : decode cL_law 247 = .ok (.iload_n 3, 1) := by decide +kernel
theorem dL_law_248 : decode cL_law 248 = .ok (.iconst 3, 1) := by decide +kernel
theorem dL_law_249 : decode cL_law 249 = .ok (.iadd, 1) := by decide +kernel
theorem dL_law_250 : decode cL_law 250 = .ok (.iaload, 1) := by decide +kernel
theorem dL_law_251 : decode cL_law 251 = .ok (.aload_n 0, 1) := by decide +kernel
theorem dL_law_252 : decode cL_law 252 = .ok (.iload_n 3, 1) := by decide +kernel
theorem dL_law_253 : decode cL_law 253 = .ok (.iconst 4, 1) := by decide +kernel
theorem dL_law_254 : decode cL_law 254 = .ok (.iadd, 1) := by decide +kernel
theorem dL_law_255 : decode cL_law 255 = .ok (.iaload, 1) := by decide +kernel
theorem dL_law_256 : decode cL_law 256 = .ok (.invokevirtual 24, 3) := by decide +kernel
theorem dL_law_259 : decode cL_law 259 = .ok (.if_icmp .eq 494, 3) := by decide +kernel
theorem dL_law_262 : decode cL_law 262 = .ok (.iconst 0, 1) := by decide +kernel
theorem dL_law_263 : decode cL_law 263 = .ok (.ireturn, 1) := by decide +kernel
theorem dL_law_264 : decode cL_law 264 = .ok (.aload_n 1, 1) := by decide +kernel
theorem dL_law_265 : decode cL_law 265 = .ok (.aload_n 0, 1) := by decide +kernel
theorem dL_law_266 : decode cL_law 266 = .ok (.iload_n 3, 1) := by decide +kernel
theorem dL_law_267 : decode cL_law 267 = .ok (.iconst 1, 1) := by decide +kernel
theorem dL_law_268 : decode cL_law 268 = .ok (.iadd, 1) := by decide +kernel
theorem dL_law_269 : decode cL_law 269 = .ok (.iaload, 1) := by decide +kernel
theorem dL_law_270 : decode cL_law 270 = .ok (.aload_n 0, 1) := by decide +kernel
theorem dL_law_271 : decode cL_law 271 = .ok (.iload_n 3, 1) := by decide +kernel
theorem dL_law_272 : decode cL_law 272 = .ok (.iconst 2, 1) := by decide +kernel
theorem dL_law_273 : decode cL_law 273 = .ok (.iadd, 1) := by decide +kernel
theorem dL_law_274 : decode cL_law 274 = .ok (.iaload, 1) := by decide +kernel
theorem dL_law_275 : decode cL_law 275 = .ok (.aload_n 0, 1) := by decide +kernel
theorem dL_law_276 : decode cL_law 276 = .ok (.iload_n 3, 1) := by decide +kernel
theorem dL_law_277 : decode cL_law 277 = .ok (.iconst 3, 1) := by decide +kernel
theorem dL_law_278 : decode cL_law 278 = .ok (.iadd, 1) := by decide +kernel
theorem dL_law_279 : decode cL_law 279 = .ok (.iaload, 1) := by decide +kernel
theorem dL_law_280 : decode cL_law 280 = .ok (.invokevirtual 25, 3) := by decide +kernel
theorem dL_law_283 : decode cL_law 283 = .ok (.aload_n 2, 1) := by decide +kernel
theorem dL_law_284 : decode cL_law 284 = .ok (.aload_n 0, 1) := by decide +kernel
theorem dL_law_285 : decode cL_law 285 = .ok (.iload_n 3, 1) := by decide +kernel
theorem dL_law_286 : decode cL_law 286 = .ok (.iconst 1, 1) := by decide +kernel
theorem dL_law_287 : decode cL_law 287 = .ok (.iadd, 1) := by decide +kernel
theorem dL_law_288 : decode cL_law 288 = .ok (.iaload, 1) := by decide +kernel
theorem dL_law_289 : decode cL_law 289 = .ok (.aload_n 0, 1) := by decide +kernel
theorem dL_law_290 : decode cL_law 290 = .ok (.iload_n 3, 1) := by decide +kernel
theorem dL_law_291 : decode cL_law 291 = .ok (.iconst 2, 1) := by decide +kernel
theorem dL_law_292 : decode cL_law 292 = .ok (.iadd, 1) := by decide +kernel
theorem dL_law_293 : decode cL_law 293 = .ok (.iaload, 1) := by decide +kernel
theorem dL_law_294 : decode cL_law 294 = .ok (.aload_n 0, 1) := by decide +kernel
theorem dL_law_295 : decode cL_law 295 = .ok (.iload_n 3, 1) := by decide +kernel
theorem dL_law_296 : decode cL_law 296 = .ok (.iconst 3, 1) := by decide +kernel
theorem dL_law_297 : decode cL_law 297 = .ok (.iadd, 1) := by decide +kernel
theorem dL_law_298 : decode cL_law 298 = .ok (.iaload, 1) := by decide +kernel
theorem dL_law_299 : decode cL_law 299 = .ok (.invokevirtual 29, 3) := by decide +kernel
theorem dL_law_302 : decode cL_law 302 = .ok (.if_icmp .eq 451, 3) := by decide +kernel
theorem dL_law_305 : decode cL_law 305 = .ok (.iconst 0, 1) := by decide +kernel
theorem dL_law_306 : decode cL_law 306 = .ok (.ireturn, 1) := by decide +kernel
theorem dL_law_307 : decode cL_law 307 = .ok (.aload_n 1, 1) := by decide +kernel
theorem dL_law_308 : decode cL_law 308 = .ok (.aload_n 0, 1) := by decide +kernel
theorem dL_law_309 : decode cL_law 309 = .ok (.iload_n 3, 1) := by decide +kernel
theorem dL_law_310 : decode cL_law 310 = .ok (.iconst 1, 1) := by decide +kernel
theorem dL_law_311 : decode cL_law 311 = .ok (.iadd, 1) := by decide +kernel
theorem dL_law_312 : decode cL_law 312 = .ok (.iaload, 1) := by decide +kernel
theorem dL_law_313 : decode cL_law 313 = .ok (.aload_n 0, 1) := by decide +kernel
theorem dL_law_314 : decode cL_law 314 = .ok (.iload_n 3, 1) := by decide +kernel
theorem dL_law_315 : decode cL_law 315 = .ok (.iconst 2, 1) := by decide +kernel
theorem dL_law_316 : decode cL_law 316 = .ok (.iadd, 1) := by decide +kernel
theorem dL_law_317 : decode cL_law 317 = .ok (.iaload, 1) := by decide +kernel
theorem dL_law_318 : decode cL_law 318 = .ok (.invokevirtual 30, 3) := by decide +kernel
theorem dL_law_321 : decode cL_law 321 = .ok (.aload_n 2, 1) := by decide +kernel
theorem dL_law_322 : decode cL_law 322 = .ok (.aload_n 0, 1) := by decide +kernel
theorem dL_law_323 : decode cL_law 323 = .ok (.iload_n 3, 1) := by decide +kernel
theorem dL_law_324 : decode cL_law 324 = .ok (.iconst 1, 1) := by decide +kernel
theorem dL_law_325 : decode cL_law 325 = .ok (.iadd, 1) := by decide +kernel
theorem dL_law_326 : decode cL_law 326 = .ok (.iaload, 1) := by decide +kernel
theorem dL_law_327 : decode cL_law 327 = .ok (.aload_n 0, 1) := by decide +kernel
theorem dL_law_328 : decode cL_law 328 = .ok (.iload_n 3, 1) := by decide +kernel
theorem dL_law_329 : decode cL_law 329 = .ok (.iconst 2, 1) := by decide +kernel
theorem dL_law_330 : decode cL_law 330 = .ok (.iadd, 1) := by decide +kernel
theorem dL_law_331 : decode cL_law 331 = .ok (.iaload, 1) := by decide +kernel
theorem dL_law_332 : decode cL_law 332 = .ok (.invokevirtual 34, 3) := by decide +kernel
theorem dL_law_335 : decode cL_law 335 = .ok (.if_icmp .eq 418, 3) := by decide +kernel
theorem dL_law_338 : decode cL_law 338 = .ok (.iconst 0, 1) := by decide +kernel
theorem dL_law_339 : decode cL_law 339 = .ok (.ireturn, 1) := by decide +kernel
theorem dL_law_340 : decode cL_law 340 = .ok (.aload_n 1, 1) := by decide +kernel
theorem dL_law_341 : decode cL_law 341 = .ok (.aload_n 0, 1) := by decide +kernel
theorem dL_law_342 : decode cL_law 342 = .ok (.iload_n 3, 1) := by decide +kernel
theorem dL_law_343 : decode cL_law 343 = .ok (.iconst 1, 1) := by decide +kernel
theorem dL_law_344 : decode cL_law 344 = .ok (.iadd, 1) := by decide +kernel
theorem dL_law_345 : decode cL_law 345 = .ok (.iaload, 1) := by decide +kernel
theorem dL_law_346 : decode cL_law 346 = .ok (.aload_n 0, 1) := by decide +kernel
theorem dL_law_347 : decode cL_law 347 = .ok (.iload_n 3, 1) := by decide +kernel
theorem dL_law_348 : decode cL_law 348 = .ok (.iconst 2, 1) := by decide +kernel
theorem dL_law_349 : decode cL_law 349 = .ok (.iadd, 1) := by decide +kernel
theorem dL_law_350 : decode cL_law 350 = .ok (.iaload, 1) := by decide +kernel
theorem dL_law_351 : decode cL_law 351 = .ok (.invokevirtual 35, 3) := by decide +kernel
theorem dL_law_354 : decode cL_law 354 = .ok (.aload_n 2, 1) := by decide +kernel
theorem dL_law_355 : decode cL_law 355 = .ok (.aload_n 0, 1) := by decide +kernel
theorem dL_law_356 : decode cL_law 356 = .ok (.iload_n 3, 1) := by decide +kernel
theorem dL_law_357 : decode cL_law 357 = .ok (.iconst 1, 1) := by decide +kernel
theorem dL_law_358 : decode cL_law 358 = .ok (.iadd, 1) := by decide +kernel
theorem dL_law_359 : decode cL_law 359 = .ok (.iaload, 1) := by decide +kernel
theorem dL_law_360 : decode cL_law 360 = .ok (.aload_n 0, 1) := by decide +kernel
theorem dL_law_361 : decode cL_law 361 = .ok (.iload_n 3, 1) := by decide +kernel
theorem dL_law_362 : decode cL_law 362 = .ok (.iconst 2, 1) := by decide +kernel
theorem dL_law_363 : decode cL_law 363 = .ok (.iadd, 1) := by decide +kernel
theorem dL_law_364 : decode cL_law 364 = .ok (.iaload, 1) := by decide +kernel
theorem dL_law_365 : decode cL_law 365 = .ok (.invokevirtual 38, 3) := by decide +kernel
theorem dL_law_368 : decode cL_law 368 = .ok (.if_icmp .eq 385, 3) := by decide +kernel
theorem dL_law_371 : decode cL_law 371 = .ok (.iconst 0, 1) := by decide +kernel
theorem dL_law_372 : decode cL_law 372 = .ok (.ireturn, 1) := by decide +kernel
theorem dL_law_373 : decode cL_law 373 = .ok (.aload_n 1, 1) := by decide +kernel
theorem dL_law_374 : decode cL_law 374 = .ok (.aload_n 0, 1) := by decide +kernel
theorem dL_law_375 : decode cL_law 375 = .ok (.iload_n 3, 1) := by decide +kernel
theorem dL_law_376 : decode cL_law 376 = .ok (.iconst 1, 1) := by decide +kernel
theorem dL_law_377 : decode cL_law 377 = .ok (.iadd, 1) := by decide +kernel
theorem dL_law_378 : decode cL_law 378 = .ok (.iaload, 1) := by decide +kernel
theorem dL_law_379 : decode cL_law 379 = .ok (.aload_n 0, 1) := by decide +kernel
theorem dL_law_380 : decode cL_law 380 = .ok (.iload_n 3, 1) := by decide +kernel
theorem dL_law_381 : decode cL_law 381 = .ok (.iconst 2, 1) := by decide +kernel
theorem dL_law_382 : decode cL_law 382 = .ok (.iadd, 1) := by decide +kernel
theorem dL_law_383 : decode cL_law 383 = .ok (.iaload, 1) := by decide +kernel
theorem dL_law_384 : decode cL_law 384 = .ok (.aload_n 0, 1) := by decide +kernel
theorem dL_law_385 : decode cL_law 385 = .ok (.iload_n 3, 1) := by decide +kernel
theorem dL_law_386 : decode cL_law 386 = .ok (.iconst 3, 1) := by decide +kernel
theorem dL_law_387 : decode cL_law 387 = .ok (.iadd, 1) := by decide +kernel
theorem dL_law_388 : decode cL_law 388 = .ok (.iaload, 1) := by decide +kernel
theorem dL_law_389 : decode cL_law 389 = .ok (.invokevirtual 39, 3) := by decide +kernel
theorem dL_law_392 : decode cL_law 392 = .ok (.aload_n 2, 1) := by decide +kernel
theorem dL_law_393 : decode cL_law 393 = .ok (.aload_n 0, 1) := by decide +kernel
theorem dL_law_394 : decode cL_law 394 = .ok (.iload_n 3, 1) := by decide +kernel
theorem dL_law_395 : decode cL_law 395 = .ok (.iconst 1, 1) := by decide +kernel
theorem dL_law_396 : decode cL_law 396 = .ok (.iadd, 1) := by decide +kernel
theorem dL_law_397 : decode cL_law 397 = .ok (.iaload, 1) := by decide +kernel
theorem dL_law_398 : decode cL_law 398 = .ok (.aload_n 0, 1) := by decide +kernel
theorem dL_law_399 : decode cL_law 399 = .ok (.iload_n 3, 1) := by decide +kernel
theorem dL_law_400 : decode cL_law 400 = .ok (.iconst 2, 1) := by decide +kernel
theorem dL_law_401 : decode cL_law 401 = .ok (.iadd, 1) := by decide +kernel
theorem dL_law_402 : decode cL_law 402 = .ok (.iaload, 1) := by decide +kernel
theorem dL_law_403 : decode cL_law 403 = .ok (.aload_n 0, 1) := by decide +kernel
theorem dL_law_404 : decode cL_law 404 = .ok (.iload_n 3, 1) := by decide +kernel
theorem dL_law_405 : decode cL_law 405 = .ok (.iconst 3, 1) := by decide +kernel
theorem dL_law_406 : decode cL_law 406 = .ok (.iadd, 1) := by decide +kernel
theorem dL_law_407 : decode cL_law 407 = .ok (.iaload, 1) := by decide +kernel
theorem dL_law_408 : decode cL_law 408 = .ok (.invokevirtual 42, 3) := by decide +kernel
theorem dL_law_411 : decode cL_law 411 = .ok (.if_icmp .eq 342, 3) := by decide +kernel
theorem dL_law_414 : decode cL_law 414 = .ok (.iconst 0, 1) := by decide +kernel
theorem dL_law_415 : decode cL_law 415 = .ok (.ireturn, 1) := by decide +kernel
theorem dL_law_416 : decode cL_law 416 = .ok (.aload_n 1, 1) := by decide +kernel
theorem dL_law_417 : decode cL_law 417 = .ok (.aload_n 0, 1) := by decide +kernel
theorem dL_law_418 : decode cL_law 418 = .ok (.iload_n 3, 1) := by decide +kernel
theorem dL_law_419 : decode cL_law 419 = .ok (.iconst 1, 1) := by decide +kernel
theorem dL_law_420 : decode cL_law 420 = .ok (.iadd, 1) := by decide +kernel
theorem dL_law_421 : decode cL_law 421 = .ok (.iaload, 1) := by decide +kernel
theorem dL_law_422 : decode cL_law 422 = .ok (.aload_n 0, 1) := by decide +kernel
theorem dL_law_423 : decode cL_law 423 = .ok (.iload_n 3, 1) := by decide +kernel
theorem dL_law_424 : decode cL_law 424 = .ok (.iconst 2, 1) := by decide +kernel
theorem dL_law_425 : decode cL_law 425 = .ok (.iadd, 1) := by decide +kernel
theorem dL_law_426 : decode cL_law 426 = .ok (.iaload, 1) := by decide +kernel
theorem dL_law_427 : decode cL_law 427 = .ok (.invokevirtual 43, 3) := by decide +kernel
theorem dL_law_430 : decode cL_law 430 = .ok (.aload_n 2, 1) := by decide +kernel
theorem dL_law_431 : decode cL_law 431 = .ok (.aload_n 0, 1) := by decide +kernel
theorem dL_law_432 : decode cL_law 432 = .ok (.iload_n 3, 1) := by decide +kernel
theorem dL_law_433 : decode cL_law 433 = .ok (.iconst 1, 1) := by decide +kernel
theorem dL_law_434 : decode cL_law 434 = .ok (.iadd, 1) := by decide +kernel
theorem dL_law_435 : decode cL_law 435 = .ok (.iaload, 1) := by decide +kernel
theorem dL_law_436 : decode cL_law 436 = .ok (.aload_n 0, 1) := by decide +kernel
theorem dL_law_437 : decode cL_law 437 = .ok (.iload_n 3, 1) := by decide +kernel
theorem dL_law_438 : decode cL_law 438 = .ok (.iconst 2, 1) := by decide +kernel
theorem dL_law_439 : decode cL_law 439 = .ok (.iadd, 1) := by decide +kernel
theorem dL_law_440 : decode cL_law 440 = .ok (.iaload, 1) := by decide +kernel
theorem dL_law_441 : decode cL_law 441 = .ok (.invokevirtual 46, 3) := by decide +kernel
theorem dL_law_444 : decode cL_law 444 = .ok (.if_icmp .eq 309, 3) := by decide +kernel
theorem dL_law_447 : decode cL_law 447 = .ok (.iconst 0, 1) := by decide +kernel
theorem dL_law_448 : decode cL_law 448 = .ok (.ireturn, 1) := by decide +kernel
theorem dL_law_449 : decode cL_law 449 = .ok (.aload_n 1, 1) := by decide +kernel
theorem dL_law_450 : decode cL_law 450 = .ok (.aload_n 0, 1) := by decide +kernel
theorem dL_law_451 : decode cL_law 451 = .ok (.iload_n 3, 1) := by decide +kernel
theorem dL_law_452 : decode cL_law 452 = .ok (.iconst 1, 1) := by decide +kernel
theorem dL_law_453 : decode cL_law 453 = .ok (.iadd, 1) := by decide +kernel
theorem dL_law_454 : decode cL_law 454 = .ok (.iaload, 1) := by decide +kernel
theorem dL_law_455 : decode cL_law 455 = .ok (.aload_n 0, 1) := by decide +kernel
theorem dL_law_456 : decode cL_law 456 = .ok (.iload_n 3, 1) := by decide +kernel
theorem dL_law_457 : decode cL_law 457 = .ok (.iconst 2, 1) := by decide +kernel
theorem dL_law_458 : decode cL_law 458 = .ok (.iadd, 1) := by decide +kernel
theorem dL_law_459 : decode cL_law 459 = .ok (.iaload, 1) := by decide +kernel
theorem dL_law_460 : decode cL_law 460 = .ok (.invokevirtual 47, 3) := by decide +kernel
theorem dL_law_463 : decode cL_law 463 = .ok (.aload_n 2, 1) := by decide +kernel
theorem dL_law_464 : decode cL_law 464 = .ok (.aload_n 0, 1) := by decide +kernel
theorem dL_law_465 : decode cL_law 465 = .ok (.iload_n 3, 1) := by decide +kernel
theorem dL_law_466 : decode cL_law 466 = .ok (.iconst 1, 1) := by decide +kernel
theorem dL_law_467 : decode cL_law 467 = .ok (.iadd, 1) := by decide +kernel
theorem dL_law_468 : decode cL_law 468 = .ok (.iaload, 1) := by decide +kernel
theorem dL_law_469 : decode cL_law 469 = .ok (.aload_n 0, 1) := by decide +kernel
theorem dL_law_470 : decode cL_law 470 = .ok (.iload_n 3, 1) := by decide +kernel
theorem dL_law_471 : decode cL_law 471 = .ok (.iconst 2, 1) := by decide +kernel
theorem dL_law_472 : decode cL_law 472 = .ok (.iadd, 1) := by decide +kernel
theorem dL_law_473 : decode cL_law 473 = .ok (.iaload, 1) := by decide +kernel
theorem dL_law_474 : decode cL_law 474 = .ok (.invokevirtual 51, 3) := by decide +kernel
theorem dL_law_477 : decode cL_law 477 = .ok (.lcmp, 1) := by decide +kernel
theorem dL_law_478 : decode cL_law 478 = .ok (.ifCond .eq 275, 3) := by decide +kernel
theorem dL_law_481 : decode cL_law 481 = .ok (.iconst 0, 1) := by decide +kernel
theorem dL_law_482 : decode cL_law 482 = .ok (.ireturn, 1) := by decide +kernel
theorem dL_law_483 : decode cL_law 483 = .ok (.aload_n 1, 1) := by decide +kernel
theorem dL_law_484 : decode cL_law 484 = .ok (.aload_n 0, 1) := by decide +kernel
theorem dL_law_485 : decode cL_law 485 = .ok (.iload_n 3, 1) := by decide +kernel
theorem dL_law_486 : decode cL_law 486 = .ok (.iconst 1, 1) := by decide +kernel
theorem dL_law_487 : decode cL_law 487 = .ok (.iadd, 1) := by decide +kernel
theorem dL_law_488 : decode cL_law 488 = .ok (.iaload, 1) := by decide +kernel
theorem dL_law_489 : decode cL_law 489 = .ok (.aload_n 0, 1) := by decide +kernel
theorem dL_law_490 : decode cL_law 490 = .ok (.iload_n 3, 1) := by decide +kernel
theorem dL_law_491 : decode cL_law 491 = .ok (.iconst 2, 1) := by decide +kernel
theorem dL_law_492 : decode cL_law 492 = .ok (.iadd, 1) := by decide +kernel
theorem dL_law_493 : decode cL_law 493 = .ok (.iaload, 1) := by decide +kernel
theorem dL_law_494 : decode cL_law 494 = .ok (.aload_n 0, 1) := by decide +kernel
theorem dL_law_495 : decode cL_law 495 = .ok (.iload_n 3, 1) := by decide +kernel
theorem dL_law_496 : decode cL_law 496 = .ok (.iconst 3, 1) := by decide +kernel
theorem dL_law_497 : decode cL_law 497 = .ok (.iadd, 1) := by decide +kernel
theorem dL_law_498 : decode cL_law 498 = .ok (.iaload, 1) := by decide +kernel
theorem dL_law_499 : decode cL_law 499 = .ok (.aload_n 0, 1) := by decide +kernel
theorem dL_law_500 : decode cL_law 500 = .ok (.iload_n 3, 1) := by decide +kernel
theorem dL_law_501 : decode cL_law 501 = .ok (.iconst 4, 1) := by decide +kernel
theorem dL_law_502 : decode cL_law 502 = .ok (.iadd, 1) := by decide +kernel
theorem dL_law_503 : decode cL_law 503 = .ok (.iaload, 1) := by decide +kernel
theorem dL_law_504 : decode cL_law 504 = .ok (.invokevirtual 52, 3) := by decide +kernel
theorem dL_law_507 : decode cL_law 507 = .ok (.aload_n 2, 1) := by decide +kernel
theorem dL_law_508 : decode cL_law 508 = .ok (.aload_n 0, 1) := by decide +kernel
theorem dL_law_509 : decode cL_law 509 = .ok (.iload_n 3, 1) := by decide +kernel
theorem dL_law_510 : decode cL_law 510 = .ok (.iconst 1, 1) := by decide +kernel
theorem dL_law_511 : decode cL_law 511 = .ok (.iadd, 1) := by decide +kernel
theorem dL_law_512 : decode cL_law 512 = .ok (.iaload, 1) := by decide +kernel
theorem dL_law_513 : decode cL_law 513 = .ok (.aload_n 0, 1) := by decide +kernel
theorem dL_law_514 : decode cL_law 514 = .ok (.iload_n 3, 1) := by decide +kernel
theorem dL_law_515 : decode cL_law 515 = .ok (.iconst 2, 1) := by decide +kernel
theorem dL_law_516 : decode cL_law 516 = .ok (.iadd, 1) := by decide +kernel
theorem dL_law_517 : decode cL_law 517 = .ok (.iaload, 1) := by decide +kernel
theorem dL_law_518 : decode cL_law 518 = .ok (.aload_n 0, 1) := by decide +kernel
theorem dL_law_519 : decode cL_law 519 = .ok (.iload_n 3, 1) := by decide +kernel
theorem dL_law_520 : decode cL_law 520 = .ok (.iconst 3, 1) := by decide +kernel
theorem dL_law_521 : decode cL_law 521 = .ok (.iadd, 1) := by decide +kernel
theorem dL_law_522 : decode cL_law 522 = .ok (.iaload, 1) := by decide +kernel
theorem dL_law_523 : decode cL_law 523 = .ok (.aload_n 0, 1) := by decide +kernel
theorem dL_law_524 : decode cL_law 524 = .ok (.iload_n 3, 1) := by decide +kernel
theorem dL_law_525 : decode cL_law 525 = .ok (.iconst 4, 1) := by decide +kernel
theorem dL_law_526 : decode cL_law 526 = .ok (.iadd, 1) := by decide +kernel
theorem dL_law_527 : decode cL_law 527 = .ok (.iaload, 1) := by decide +kernel
theorem dL_law_528 : decode cL_law 528 = .ok (.invokevirtual 55, 3) := by decide +kernel
theorem dL_law_531 : decode cL_law 531 = .ok (.if_icmp .eq 222, 3) := by decide +kernel
theorem dL_law_534 : decode cL_law 534 = .ok (.iconst 0, 1) := by decide +kernel
theorem dL_law_535 : decode cL_law 535 = .ok (.ireturn, 1) := by decide +kernel
theorem dL_law_536 : decode cL_law 536 = .ok (.aload_n 1, 1) := by decide +kernel
theorem dL_law_537 : decode cL_law 537 = .ok (.aload_n 0, 1) := by decide +kernel
theorem dL_law_538 : decode cL_law 538 = .ok (.iload_n 3, 1) := by decide +kernel
theorem dL_law_539 : decode cL_law 539 = .ok (.iconst 1, 1) := by decide +kernel
theorem dL_law_540 : decode cL_law 540 = .ok (.iadd, 1) := by decide +kernel
theorem dL_law_541 : decode cL_law 541 = .ok (.iaload, 1) := by decide +kernel
theorem dL_law_542 : decode cL_law 542 = .ok (.invokevirtual 56, 3) := by decide +kernel
theorem dL_law_545 : decode cL_law 545 = .ok (.aload_n 2, 1) := by decide +kernel
theorem dL_law_546 : decode cL_law 546 = .ok (.aload_n 0, 1) := by decide +kernel
theorem dL_law_547 : decode cL_law 547 = .ok (.iload_n 3, 1) := by decide +kernel
theorem dL_law_548 : decode cL_law 548 = .ok (.iconst 1, 1) := by decide +kernel
theorem dL_law_549 : decode cL_law 549 = .ok (.iadd, 1) := by decide +kernel
theorem dL_law_550 : decode cL_law 550 = .ok (.iaload, 1) := by decide +kernel
theorem dL_law_551 : decode cL_law 551 = .ok (.invokevirtual 60, 3) := by decide +kernel
theorem dL_law_554 : decode cL_law 554 = .ok (.if_icmp .eq 199, 3) := by decide +kernel
theorem dL_law_557 : decode cL_law 557 = .ok (.iconst 0, 1) := by decide +kernel
theorem dL_law_558 : decode cL_law 558 = .ok (.ireturn, 1) := by decide +kernel
theorem dL_law_559 : decode cL_law 559 = .ok (.aload_n 1, 1) := by decide +kernel
theorem dL_law_560 : decode cL_law 560 = .ok (.aload_n 0, 1) := by decide +kernel
theorem dL_law_561 : decode cL_law 561 = .ok (.iload_n 3, 1) := by decide +kernel
theorem dL_law_562 : decode cL_law 562 = .ok (.iconst 1, 1) := by decide +kernel
theorem dL_law_563 : decode cL_law 563 = .ok (.iadd, 1) := by decide +kernel
theorem dL_law_564 : decode cL_law 564 = .ok (.iaload, 1) := by decide +kernel
theorem dL_law_565 : decode cL_law 565 = .ok (.invokevirtual 61, 3) := by decide +kernel
theorem dL_law_568 : decode cL_law 568 = .ok (.aload_n 2, 1) := by decide +kernel
theorem dL_law_569 : decode cL_law 569 = .ok (.aload_n 0, 1) := by decide +kernel
theorem dL_law_570 : decode cL_law 570 = .ok (.iload_n 3, 1) := by decide +kernel
theorem dL_law_571 : decode cL_law 571 = .ok (.iconst 1, 1) := by decide +kernel
theorem dL_law_572 : decode cL_law 572 = .ok (.iadd, 1) := by decide +kernel
theorem dL_law_573 : decode cL_law 573 = .ok (.iaload, 1) := by decide +kernel
theorem dL_law_574 : decode cL_law 574 = .ok (.invokevirtual 64, 3) := by decide +kernel
theorem dL_law_577 : decode cL_law 577 = .ok (.if_icmp .eq 176, 3) := by decide +kernel
theorem dL_law_580 : decode cL_law 580 = .ok (.iconst 0, 1) := by decide +kernel
theorem dL_law_581 : decode cL_law 581 = .ok (.ireturn, 1) := by decide +kernel
theorem dL_law_582 : decode cL_law 582 = .ok (.aload_n 1, 1) := by decide +kernel
theorem dL_law_583 : decode cL_law 583 = .ok (.invokevirtual 65, 3) := by decide +kernel
theorem dL_law_586 : decode cL_law 586 = .ok (.aload_n 2, 1) := by decide +kernel
theorem dL_law_587 : decode cL_law 587 = .ok (.invokevirtual 69, 3) := by decide +kernel
theorem dL_law_590 : decode cL_law 590 = .ok (.if_icmp .eq 163, 3) := by decide +kernel
theorem dL_law_593 : decode cL_law 593 = .ok (.iconst 0, 1) := by decide +kernel
theorem dL_law_594 : decode cL_law 594 = .ok (.ireturn, 1) := by decide +kernel
theorem dL_law_595 : decode cL_law 595 = .ok (.aload_n 1, 1) := by decide +kernel
theorem dL_law_596 : decode cL_law 596 = .ok (.aload_n 0, 1) := by decide +kernel
theorem dL_law_597 : decode cL_law 597 = .ok (.iload_n 3, 1) := by decide +kernel
theorem dL_law_598 : decode cL_law 598 = .ok (.iconst 1, 1) := by decide +kernel
theorem dL_law_599 : decode cL_law 599 = .ok (.iadd, 1) := by decide +kernel
theorem dL_law_600 : decode cL_law 600 = .ok (.iaload, 1) := by decide +kernel
theorem dL_law_601 : decode cL_law 601 = .ok (.invokevirtual 70, 3) := by decide +kernel
theorem dL_law_604 : decode cL_law 604 = .ok (.aload_n 2, 1) := by decide +kernel
theorem dL_law_605 : decode cL_law 605 = .ok (.aload_n 0, 1) := by decide +kernel
theorem dL_law_606 : decode cL_law 606 = .ok (.iload_n 3, 1) := by decide +kernel
theorem dL_law_607 : decode cL_law 607 = .ok (.iconst 1, 1) := by decide +kernel
theorem dL_law_608 : decode cL_law 608 = .ok (.iadd, 1) := by decide +kernel
theorem dL_law_609 : decode cL_law 609 = .ok (.iaload, 1) := by decide +kernel
theorem dL_law_610 : decode cL_law 610 = .ok (.invokevirtual 73, 3) := by decide +kernel
theorem dL_law_613 : decode cL_law 613 = .ok (.if_icmp .eq 140, 3) := by decide +kernel
theorem dL_law_616 : decode cL_law 616 = .ok (.iconst 0, 1) := by decide +kernel
theorem dL_law_617 : decode cL_law 617 = .ok (.ireturn, 1) := by decide +kernel
theorem dL_law_618 : decode cL_law 618 = .ok (.aload_n 1, 1) := by decide +kernel
theorem dL_law_619 : decode cL_law 619 = .ok (.aload_n 0, 1) := by decide +kernel
theorem dL_law_620 : decode cL_law 620 = .ok (.iload_n 3, 1) := by decide +kernel
theorem dL_law_621 : decode cL_law 621 = .ok (.iconst 1, 1) := by decide +kernel
theorem dL_law_622 : decode cL_law 622 = .ok (.iadd, 1) := by decide +kernel
theorem dL_law_623 : decode cL_law 623 = .ok (.iaload, 1) := by decide +kernel
theorem dL_law_624 : decode cL_law 624 = .ok (.invokevirtual 74, 3) := by decide +kernel
theorem dL_law_627 : decode cL_law 627 = .ok (.aload_n 2, 1) := by decide +kernel
theorem dL_law_628 : decode cL_law 628 = .ok (.aload_n 0, 1) := by decide +kernel
theorem dL_law_629 : decode cL_law 629 = .ok (.iload_n 3, 1) := by decide +kernel
theorem dL_law_630 : decode cL_law 630 = .ok (.iconst 1, 1) := by decide +kernel
theorem dL_law_631 : decode cL_law 631 = .ok (.iadd, 1) := by decide +kernel
theorem dL_law_632 : decode cL_law 632 = .ok (.iaload, 1) := by decide +kernel
theorem dL_law_633 : decode cL_law 633 = .ok (.invokevirtual 78, 3) := by decide +kernel
theorem dL_law_636 : decode cL_law 636 = .ok (.lcmp, 1) := by decide +kernel
theorem dL_law_637 : decode cL_law 637 = .ok (.ifCond .eq 116, 3) := by decide +kernel
theorem dL_law_640 : decode cL_law 640 = .ok (.iconst 0, 1) := by decide +kernel
theorem dL_law_641 : decode cL_law 641 = .ok (.ireturn, 1) := by decide +kernel
theorem dL_law_642 : decode cL_law 642 = .ok (.aload_n 1, 1) := by decide +kernel
theorem dL_law_643 : decode cL_law 643 = .ok (.aload_n 0, 1) := by decide +kernel
theorem dL_law_644 : decode cL_law 644 = .ok (.iload_n 3, 1) := by decide +kernel
theorem dL_law_645 : decode cL_law 645 = .ok (.iconst 1, 1) := by decide +kernel
theorem dL_law_646 : decode cL_law 646 = .ok (.iadd, 1) := by decide +kernel
theorem dL_law_647 : decode cL_law 647 = .ok (.iaload, 1) := by decide +kernel
theorem dL_law_648 : decode cL_law 648 = .ok (.invokevirtual 79, 3) := by decide +kernel
theorem dL_law_651 : decode cL_law 651 = .ok (.aload_n 2, 1) := by decide +kernel
theorem dL_law_652 : decode cL_law 652 = .ok (.aload_n 0, 1) := by decide +kernel
theorem dL_law_653 : decode cL_law 653 = .ok (.iload_n 3, 1) := by decide +kernel
theorem dL_law_654 : decode cL_law 654 = .ok (.iconst 1, 1) := by decide +kernel
theorem dL_law_655 : decode cL_law 655 = .ok (.iadd, 1) := by decide +kernel
theorem dL_law_656 : decode cL_law 656 = .ok (.iaload, 1) := by decide +kernel
theorem dL_law_657 : decode cL_law 657 = .ok (.invokevirtual 82, 3) := by decide +kernel
theorem dL_law_660 : decode cL_law 660 = .ok (.if_icmp .eq 93, 3) := by decide +kernel
theorem dL_law_663 : decode cL_law 663 = .ok (.iconst 0, 1) := by decide +kernel
theorem dL_law_664 : decode cL_law 664 = .ok (.ireturn, 1) := by decide +kernel
theorem dL_law_665 : decode cL_law 665 = .ok (.aload_n 1, 1) := by decide +kernel
theorem dL_law_666 : decode cL_law 666 = .ok (.aload_n 0, 1) := by decide +kernel
theorem dL_law_667 : decode cL_law 667 = .ok (.iload_n 3, 1) := by decide +kernel
theorem dL_law_668 : decode cL_law 668 = .ok (.iconst 1, 1) := by decide +kernel
theorem dL_law_669 : decode cL_law 669 = .ok (.iadd, 1) := by decide +kernel
theorem dL_law_670 : decode cL_law 670 = .ok (.iaload, 1) := by decide +kernel
theorem dL_law_671 : decode cL_law 671 = .ok (.aload_n 0, 1) := by decide +kernel
theorem dL_law_672 : decode cL_law 672 = .ok (.iload_n 3, 1) := by decide +kernel
theorem dL_law_673 : decode cL_law 673 = .ok (.iconst 2, 1) := by decide +kernel
theorem dL_law_674 : decode cL_law 674 = .ok (.iadd, 1) := by decide +kernel
theorem dL_law_675 : decode cL_law 675 = .ok (.iaload, 1) := by decide +kernel
theorem dL_law_676 : decode cL_law 676 = .ok (.invokevirtual 83, 3) := by decide +kernel
theorem dL_law_679 : decode cL_law 679 = .ok (.aload_n 2, 1) := by decide +kernel
theorem dL_law_680 : decode cL_law 680 = .ok (.aload_n 0, 1) := by decide +kernel
theorem dL_law_681 : decode cL_law 681 = .ok (.iload_n 3, 1) := by decide +kernel
theorem dL_law_682 : decode cL_law 682 = .ok (.iconst 1, 1) := by decide +kernel
theorem dL_law_683 : decode cL_law 683 = .ok (.iadd, 1) := by decide +kernel
theorem dL_law_684 : decode cL_law 684 = .ok (.iaload, 1) := by decide +kernel
theorem dL_law_685 : decode cL_law 685 = .ok (.aload_n 0, 1) := by decide +kernel
theorem dL_law_686 : decode cL_law 686 = .ok (.iload_n 3, 1) := by decide +kernel
theorem dL_law_687 : decode cL_law 687 = .ok (.iconst 2, 1) := by decide +kernel
theorem dL_law_688 : decode cL_law 688 = .ok (.iadd, 1) := by decide +kernel
theorem dL_law_689 : decode cL_law 689 = .ok (.iaload, 1) := by decide +kernel
theorem dL_law_690 : decode cL_law 690 = .ok (.invokevirtual 86, 3) := by decide +kernel
theorem dL_law_693 : decode cL_law 693 = .ok (.lcmp, 1) := by decide +kernel
theorem dL_law_694 : decode cL_law 694 = .ok (.ifCond .eq 59, 3) := by decide +kernel
theorem dL_law_697 : decode cL_law 697 = .ok (.iconst 0, 1) := by decide +kernel
theorem dL_law_698 : decode cL_law 698 = .ok (.ireturn, 1) := by decide +kernel
theorem dL_law_699 : decode cL_law 699 = .ok (.aload_n 1, 1) := by decide +kernel
theorem dL_law_700 : decode cL_law 700 = .ok (.aload_n 0, 1) := by decide +kernel
theorem dL_law_701 : decode cL_law 701 = .ok (.iload_n 3, 1) := by decide +kernel
theorem dL_law_702 : decode cL_law 702 = .ok (.iconst 1, 1) := by decide +kernel
theorem dL_law_703 : decode cL_law 703 = .ok (.iadd, 1) := by decide +kernel
theorem dL_law_704 : decode cL_law 704 = .ok (.iaload, 1) := by decide +kernel
theorem dL_law_705 : decode cL_law 705 = .ok (.aload_n 0, 1) := by decide +kernel
theorem dL_law_706 : decode cL_law 706 = .ok (.iload_n 3, 1) := by decide +kernel
theorem dL_law_707 : decode cL_law 707 = .ok (.iconst 2, 1) := by decide +kernel
theorem dL_law_708 : decode cL_law 708 = .ok (.iadd, 1) := by decide +kernel
theorem dL_law_709 : decode cL_law 709 = .ok (.iaload, 1) := by decide +kernel
theorem dL_law_710 : decode cL_law 710 = .ok (.aload_n 0, 1) := by decide +kernel
theorem dL_law_711 : decode cL_law 711 = .ok (.iload_n 3, 1) := by decide +kernel
theorem dL_law_712 : decode cL_law 712 = .ok (.iconst 3, 1) := by decide +kernel
theorem dL_law_713 : decode cL_law 713 = .ok (.iadd, 1) := by decide +kernel
theorem dL_law_714 : decode cL_law 714 = .ok (.iaload, 1) := by decide +kernel
theorem dL_law_715 : decode cL_law 715 = .ok (.aload_n 0, 1) := by decide +kernel
theorem dL_law_716 : decode cL_law 716 = .ok (.iload_n 3, 1) := by decide +kernel
theorem dL_law_717 : decode cL_law 717 = .ok (.iconst 4, 1) := by decide +kernel
theorem dL_law_718 : decode cL_law 718 = .ok (.iadd, 1) := by decide +kernel
theorem dL_law_719 : decode cL_law 719 = .ok (.iaload, 1) := by decide +kernel
theorem dL_law_720 : decode cL_law 720 = .ok (.invokevirtual 87, 3) := by decide +kernel
theorem dL_law_723 : decode cL_law 723 = .ok (.aload_n 2, 1) := by decide +kernel
theorem dL_law_724 : decode cL_law 724 = .ok (.aload_n 0, 1) := by decide +kernel
theorem dL_law_725 : decode cL_law 725 = .ok (.iload_n 3, 1) := by decide +kernel
theorem dL_law_726 : decode cL_law 726 = .ok (.iconst 1, 1) := by decide +kernel
theorem dL_law_727 : decode cL_law 727 = .ok (.iadd, 1) := by decide +kernel
theorem dL_law_728 : decode cL_law 728 = .ok (.iaload, 1) := by decide +kernel
theorem dL_law_729 : decode cL_law 729 = .ok (.aload_n 0, 1) := by decide +kernel
theorem dL_law_730 : decode cL_law 730 = .ok (.iload_n 3, 1) := by decide +kernel
theorem dL_law_731 : decode cL_law 731 = .ok (.iconst 2, 1) := by decide +kernel
theorem dL_law_732 : decode cL_law 732 = .ok (.iadd, 1) := by decide +kernel
theorem dL_law_733 : decode cL_law 733 = .ok (.iaload, 1) := by decide +kernel
theorem dL_law_734 : decode cL_law 734 = .ok (.aload_n 0, 1) := by decide +kernel
theorem dL_law_735 : decode cL_law 735 = .ok (.iload_n 3, 1) := by decide +kernel
theorem dL_law_736 : decode cL_law 736 = .ok (.iconst 3, 1) := by decide +kernel
theorem dL_law_737 : decode cL_law 737 = .ok (.iadd, 1) := by decide +kernel
theorem dL_law_738 : decode cL_law 738 = .ok (.iaload, 1) := by decide +kernel
theorem dL_law_739 : decode cL_law 739 = .ok (.aload_n 0, 1) := by decide +kernel
theorem dL_law_740 : decode cL_law 740 = .ok (.iload_n 3, 1) := by decide +kernel
theorem dL_law_741 : decode cL_law 741 = .ok (.iconst 4, 1) := by decide +kernel
theorem dL_law_742 : decode cL_law 742 = .ok (.iadd, 1) := by decide +kernel
theorem dL_law_743 : decode cL_law 743 = .ok (.iaload, 1) := by decide +kernel
theorem dL_law_744 : decode cL_law 744 = .ok (.invokevirtual 91, 3) := by decide +kernel
theorem dL_law_747 : decode cL_law 747 = .ok (.lcmp, 1) := by decide +kernel
theorem dL_law_748 : decode cL_law 748 = .ok (.ifCond .eq 5, 3) := by decide +kernel
theorem dL_law_751 : decode cL_law 751 = .ok (.iconst 0, 1) := by decide +kernel
theorem dL_law_752 : decode cL_law 752 = .ok (.ireturn, 1) := by decide +kernel
theorem dL_law_753 : decode cL_law 753 = .ok (.iinc 3 7, 3) := by decide +kernel
theorem dL_law_756 : decode cL_law 756 = .ok (.goto (-738), 3) := by decide +kernel
theorem dL_law_759 : decode cL_law 759 = .ok (.iconst 1, 1) := by decide +kernel
theorem dL_law_760 : decode cL_law 760 = .ok (.ireturn, 1) := by decide +kernel
end
section
/-! the mini world: shapes by id, typed stores; refs are ids -/
abbrev Sh : Type := (FieldType × Nat) ⊕ Nat
abbrev Hp : Type := (Nat → Nat → Int32) × (Nat → Nat → Int64) × (Nat → Nat → Option Nat)
abbrev MI : Type := MethodName × ByteArray × Nat × Option FieldType × Room
abbrev QT : Type := Option Value → List Sh → Hp → Prop
def u2 {α : Type} (f : Nat → Nat → α) (a k : Nat) (x : α) : Nat → Nat → α := fun b j => if b = a ∧ j = k then x else f b j
def sI (h : Hp) (a k : Nat) (x : Int32) : Hp := (u2 h.1 a k x, h.2.1, h.2.2)
def sL (h : Hp) (a k : Nat) (x : Int64) : Hp := (h.1, u2 h.2.1 a k x, h.2.2)
def sR (h : Hp) (a k : Nat) (x : Option Nat) : Hp := (h.1, h.2.1, u2 h.2.2 a k x)
def clr (h : Hp) (n : Nat) : Hp := (fun b j => if b = n then 0 else h.1 b j, fun b j => if b = n then 0 else h.2.1 b j, fun b j => if b = n then none else h.2.2 b j)
def tyC (c : Nat) : Nat → FieldType := match c with
  | 0 => tyX0
  | 1 => tyX1
  | 2 => tyX2
  | 3 => tyX3
  | 4 => tyX4
  | 5 => tyX5
  | 6 => tyX6
  | 7 => tyX7
  | 8 => tyX8
  | _ => tyX9
def nfC (c : Nat) : Nat := match c with
  | 0 => 3
  | 1 => 6
  | 2 => 17
  | 3 => 2
  | 4 => 15
  | 5 => 6
  | 6 => 3
  | 7 => 5
  | 8 => 4
  | _ => 42
def rv (b : Nat) (adr : Nat → Nat) : Value → Value
  | .ref k => .ref (adr k)
  | .retAddr _ => .ref b
  | v => v
theorem rv_cat (b : Nat) (adr : Nat → Nat) (v : Value) : (rv b adr v).category = v.category := by cases v <;> rfl
theorem rv_rf (b : Nat) (adr : Nat → Nat) (r : Option Nat) : va_rf (r.map adr) = rv b adr (va_rf r) := by cases r <;> rfl
def fv (adr : Nat → Nat) (h : Hp) (k : Nat) (ty : FieldType) (j : Nat) : Value := match ty with
  | .long => .long (h.2.1 k j)
  | .object _ => va_rf ((h.2.2 k j).map adr)
  | .array _ => va_rf ((h.2.2 k j).map adr)
  | _ => .int (h.1 k j)
def cel (cyc : FieldType → ClassId) (adr : Nat → Nat) (h : Hp) (k : Nat) (s : Sh) : va_E := match s with
  | .inl (.long, n) => .inl (cyc .long, n, .inr (.inl (h.2.1 k)))
  | .inl (.object C, n) => .inl (cyc (.object C), n, .inr (.inr (.inr (.inr (fun j => (h.2.2 k j).map adr)))))
  | .inl (ty, n) => .inl (cyc ty, n, .inl (h.1 k))
  | .inr ci => .inr (ci, (List.range (nfC ci)).map (fun j => fv adr h k (tyC ci j) j))
def wsl (cyc : FieldType → ClassId) (adr : Nat → Nat) (h : Hp) (sh : List Sh) : va_W := sh.mapIdx (fun k s => (adr k, cel cyc adr h k s))
theorem wsl_at {cyc : FieldType → ClassId} {adr : Nat → Nat} {h : Hp} {sh : List Sh} {k : Nat} {s : Sh} (hk : sh[k]? = some s) : (wsl cyc adr h sh)[k]? = some (adr k, cel cyc adr h k s) := by
  simp [wsl, hk]
theorem wsl_len (cyc : FieldType → ClassId) (adr : Nat → Nat) (h : Hp) (sh : List Sh) : (wsl cyc adr h sh).length = sh.length := by simp [wsl]
theorem wsl_set {cyc : FieldType → ClassId} {adr : Nat → Nat} {h h' : Hp} {sh : List Sh} {k : Nat} {s : Sh} {e : va_E} (hk : sh[k]? = some s) (he : cel cyc adr h' k s = e) (ho : ∀ j t, j ≠ k → cel cyc adr h' j t = cel cyc adr h j t) : (wsl cyc adr h sh).set k (adr k, e) = wsl cyc adr h' sh := by
  apply List.ext_getElem?
  intro i
  rw [List.getElem?_set]
  by_cases hi : k = i
  · subst hi
    have hlt : k < sh.length := (List.getElem?_eq_some_iff.mp hk).1
    simp only [wsl_at hk, he, wsl_len, hlt]
    simp
  · simp only [hi]
    simp [wsl]
    cases hs : sh[i]? with
    | none => simp
    | some t => simp [ho i t (fun q => hi q.symm)]
theorem wsl_push {cyc : FieldType → ClassId} {adr adr' : Nat → Nat} {h h' : Hp} {sh : List Sh} {t : Sh} {q : Nat} {e : va_E} (hq : adr' sh.length = q) (he : cel cyc adr' h' sh.length t = e) (ho : ∀ j s, sh[j]? = some s → (adr' j, cel cyc adr' h' j s) = (adr j, cel cyc adr h j s)) : wsl cyc adr h sh ++ [(q, e)] = wsl cyc adr' h' (sh ++ [t]) := by
  apply List.ext_getElem?
  intro i
  by_cases hi : i < sh.length
  · rw [List.getElem?_append_left (by rw [wsl_len]; exact hi)]
    have e1 : sh[i]? = some sh[i] := List.getElem?_eq_getElem hi
    rw [wsl_at e1, wsl_at (s := sh[i]) (by rw [List.getElem?_append_left hi]; exact e1), ho i _ e1]
  · rw [List.getElem?_append_right (by rw [wsl_len]; omega), wsl_len]
    by_cases h2 : i = sh.length
    · subst h2
      rw [wsl_at (s := t) (by simp)]
      simp [hq, he]
    · have e1 : [(q, e)][i - sh.length]? = none := by simp; omega
      rw [e1]
      symm
      simp [wsl]
      omega
theorem cel_oI (cyc : FieldType → ClassId) (adr : Nat → Nat) (h : Hp) (a k : Nat) (x : Int32) : ∀ j t, j ≠ a → cel cyc adr (sI h a k x) j t = cel cyc adr h j t := by
  intro j t hj
  have e1 : (sI h a k x).1 j = h.1 j := by funext i; simp [sI, u2, hj]
  have e2 : ∀ ty i, fv adr (sI h a k x) j ty i = fv adr h j ty i := by intro ty i; cases ty <;> simp [fv, e1, sI] <;> simp [u2, hj]
  unfold cel
  split <;> simp [e1, e2] <;> rfl
theorem cel_oL (cyc : FieldType → ClassId) (adr : Nat → Nat) (h : Hp) (a k : Nat) (x : Int64) : ∀ j t, j ≠ a → cel cyc adr (sL h a k x) j t = cel cyc adr h j t := by
  intro j t hj
  have e1 : (sL h a k x).2.1 j = h.2.1 j := by funext i; simp [sL, u2, hj]
  have e2 : ∀ ty i, fv adr (sL h a k x) j ty i = fv adr h j ty i := by intro ty i; cases ty <;> simp [fv, e1, sL] <;> simp [u2, hj]
  unfold cel
  split <;> simp [e1, e2] <;> rfl
theorem cel_oR (cyc : FieldType → ClassId) (adr : Nat → Nat) (h : Hp) (a k : Nat) (x : Option Nat) : ∀ j t, j ≠ a → cel cyc adr (sR h a k x) j t = cel cyc adr h j t := by
  intro j t hj
  have e1 : (sR h a k x).2.2 j = h.2.2 j := by funext i; simp [sR, u2, hj]
  have e2 : ∀ ty i, fv adr (sR h a k x) j ty i = fv adr h j ty i := by intro ty i; cases ty <;> simp [fv, e1, sR] <;> simp [u2, hj]
  unfold cel
  split <;> simp [e1, e2] <;> rfl


/-! the tables' words: the good ones, and those of nest mates -/
def mGood : List Cond := lw_tbl.filter goodWord
theorem mg {w : Cond} (i : Nat) (h : lw_tbl[i]? = some w) (hg : goodWord w = true) : w ∈ mGood := List.mem_filter.mpr ⟨List.mem_of_getElem? h, hg⟩
theorem mGood_good {w : Cond} (h : w ∈ mGood) : goodWord w = true := (List.mem_filter.mp h).2
def isNest : Cond → Bool
  | .fieldLinkNest .. => true
  | .methodLinkNest .. => true
  | _ => false
def mNest : List Cond := lw_tbl.filter isNest
theorem mn {w : Cond} (i : Nat) (h : lw_tbl[i]? = some w) (hg : isNest w = true) : w ∈ mNest := List.mem_filter.mpr ⟨List.mem_of_getElem? h, hg⟩
theorem mNest_warm {s U : State} (hW : s.WarmedH U.vm) (h : ∀ w ∈ mNest, va_Nw w s) : ∀ w ∈ mNest, va_Nw w U := by
  intro w hw
  have h1 := h w hw
  have h2 := (List.mem_filter.mp hw).2
  cases w <;> first | exact va_Nw.warmF hW h1 | exact va_Nw.warmM hW h1 | cases h2
theorem mNest_same {s U : State} (hW : s.vm = U.vm) (h : ∀ w ∈ mNest, va_Nw w s) : ∀ w ∈ mNest, va_Nw w U := by
  intro w hw
  have h1 := h w hw
  have h2 := (List.mem_filter.mp hw).2
  cases w <;> first | (cases h2; done) | exact va_Nw.same rfl hW h1
theorem goodIn_M {y : MethodName} {cc : ByteArray} {nL : Nat} {ret : Option FieldType} (h : Cond.code y cc nL ret ∈ mGood) : GoodIn mGood (Cond.code y cc nL ret :: mGood) := by
  intro w hw
  rcases List.mem_cons.mp hw with rfl | h1
  · exact ⟨h, good_of_word (mGood_good h)⟩
  · exact ⟨h1, good_of_word (mGood_good h1)⟩
def tysL (cyc : FieldType → ClassId) : List (ClassId × FieldType) := [(cyc .byte, .byte), (cyc .int, .int), (cyc .long, .long), (cyc .boolean, .boolean), (cyc (.object RX3), .object RX3)]

/-! locals by position -/
def killw : Option Value → Option Value
  | some (.long _) => none
  | some (.double _) => none
  | o => o
def lst1 : List (Option Value) → Nat → Value → List (Option Value)
  | [], _, _ => []
  | _ :: t, 0, v => some v :: t
  | o :: t, 1, v => killw o :: (match t with | [] => [] | _ :: t' => some v :: t')
  | o :: t, i + 2, v => o :: lst1 t (i + 1) v
def lst2 : List (Option Value) → Nat → Value → List (Option Value)
  | [], _, _ => []
  | _ :: t, 0, v => some v :: (match t with | [] => [] | _ :: t' => none :: t')
  | o :: t, 1, v => killw o :: (match t with | [] => [] | _ :: t' => some v :: (match t' with | [] => [] | _ :: t'' => none :: t''))
  | o :: t, i + 2, v => o :: lst2 t (i + 1) v
theorem killw_some {o : Option Value} {w : Value} (h : killw o = some w) : o = some w ∧ ¬ w.category = 2 := by
  cases o with
  | none => cases h
  | some v => cases v <;> simp [killw] at h <;> subst h <;> exact ⟨rfl, by simp [Value.category]⟩
theorem lst1_at : ∀ (lv : List (Option Value)) (i : Nat) (v : Value) (j : Nat) (w : Value), (lst1 lv i v)[j]? = some (some w) → (j = i ∧ w = v) ∨ (j ≠ i ∧ lv[j]? = some (some w) ∧ ¬ (j + 1 = i ∧ w.category = 2)) := by
  intro lv i v
  induction lv, i, v using lst1.induct with
  | case1 i v => intro j w h; simp [lst1] at h
  | case2 o t v =>
    intro j w h
    cases j with
    | zero => simp [lst1] at h; exact Or.inl ⟨rfl, h.symm⟩
    | succ j => simp [lst1] at h; exact Or.inr ⟨by omega, by simpa using h, by omega⟩
  | case3 o t v =>
    intro j w h
    cases j with
    | zero =>
      simp [lst1] at h
      have := killw_some h
      exact Or.inr ⟨by omega, by simp [this.1], fun q => this.2 q.2⟩
    | succ j =>
      cases t with
      | nil => simp [lst1] at h
      | cons o2 t =>
        cases j with
        | zero => simp [lst1] at h; exact Or.inl ⟨rfl, h.symm⟩
        | succ j => simp [lst1] at h; exact Or.inr ⟨by omega, by simpa using h, by omega⟩
  | case4 o t i v ih =>
    intro j w h
    cases j with
    | zero => simp [lst1] at h; exact Or.inr ⟨by omega, by simpa using h, by omega⟩
    | succ j =>
      simp only [lst1, List.getElem?_cons_succ] at h
      rcases ih j w h with ⟨q1, q2⟩ | ⟨q1, q2, q3⟩
      · exact Or.inl ⟨by omega, q2⟩
      · exact Or.inr ⟨by omega, by simpa using q2, fun q => q3 ⟨by omega, q.2⟩⟩
theorem lst2_at : ∀ (lv : List (Option Value)) (i : Nat) (v : Value) (j : Nat) (w : Value), (lst2 lv i v)[j]? = some (some w) → (j = i ∧ w = v) ∨ (j ≠ i ∧ j ≠ i + 1 ∧ lv[j]? = some (some w) ∧ ¬ (j + 1 = i ∧ w.category = 2)) := by
  intro lv i v
  induction lv, i, v using lst2.induct with
  | case1 i v => intro j w h; simp [lst2] at h
  | case2 o t v =>
    intro j w h
    cases j with
    | zero => simp [lst2] at h; exact Or.inl ⟨rfl, h.symm⟩
    | succ j =>
      cases t with
      | nil => simp [lst2] at h
      | cons o2 t =>
        cases j with
        | zero => simp [lst2] at h
        | succ j => simp [lst2] at h; exact Or.inr ⟨by omega, by omega, by simpa using h, by omega⟩
  | case3 o t v =>
    intro j w h
    cases j with
    | zero =>
      simp [lst2] at h
      have := killw_some h
      exact Or.inr ⟨by omega, by omega, by simp [this.1], fun q => this.2 q.2⟩
    | succ j =>
      cases t with
      | nil => simp [lst2] at h
      | cons o2 t =>
        cases j with
        | zero => simp [lst2] at h; exact Or.inl ⟨rfl, h.symm⟩
        | succ j =>
          cases t with
          | nil => simp [lst2] at h
          | cons o3 t =>
            cases j with
            | zero => simp [lst2] at h
            | succ j => simp [lst2] at h; exact Or.inr ⟨by omega, by omega, by simpa using h, by omega⟩
  | case4 o t i v ih =>
    intro j w h
    cases j with
    | zero => simp [lst2] at h; exact Or.inr ⟨by omega, by omega, by simpa using h, by omega⟩
    | succ j =>
      simp only [lst2, List.getElem?_cons_succ] at h
      rcases ih j w h with ⟨q1, q2⟩ | ⟨q1, q2, q3, q4⟩
      · exact Or.inl ⟨by omega, q2⟩
      · exact Or.inr ⟨by omega, by omega, by simpa using q3, fun q => q4 ⟨by omega, q.2⟩⟩
def Lv (b : Nat) (adr : Nat → Nat) (nL : Nat) (lv : List (Option Value)) (ls : Array Slot) : Prop := ls.size = nL ∧ lv_wf ls ∧ ∀ (i : Nat) (v : Value), lv[i]? = some (some v) → ls[i]? = some (.val (rv b adr v))
def lvp (b : Nat) (adr : Nat → Nat) (lv : List (Option Value)) : List (Nat × Value) := (List.range lv.length).filterMap fun i => match lv[i]? with
  | some (some v) => some (i, rv b adr v)
  | _ => none
theorem lvp_mem {b : Nat} {adr : Nat → Nat} {lv : List (Option Value)} {q : Nat × Value} (h : q ∈ lvp b adr lv) : ∃ v, lv[q.1]? = some (some v) ∧ q.2 = rv b adr v := by
  obtain ⟨i, -, h2⟩ := List.mem_filterMap.mp h
  split at h2
  · next v hv => cases h2; exact ⟨v, hv, rfl⟩
  · cases h2
theorem lvp_in {b : Nat} {adr : Nat → Nat} {lv : List (Option Value)} {i : Nat} {v : Value} (h : lv[i]? = some (some v)) : (i, rv b adr v) ∈ lvp b adr lv := by
  refine List.mem_filterMap.mpr ⟨i, List.mem_range.mpr (List.getElem?_eq_some_iff.mp h).1, ?_⟩
  simp [h]
theorem Lv.has {b : Nat} {adr : Nat → Nat} {nL : Nat} {lv : List (Option Value)} {ls : Array Slot} (h : Lv b adr nL lv ls) : lv_has ls nL (lvp b adr lv) := ⟨h.1, h.2.1, fun q hq => by
  obtain ⟨v, h1, h2⟩ := lvp_mem hq
  rw [h2]; exact h.2.2 _ _ h1⟩
theorem Lv.st1 {b : Nat} {adr : Nat → Nat} {nL i : Nat} {lv : List (Option Value)} {v : Value} {ls' : Array Slot} (h : lv_has ls' nL ((i, rv b adr v) :: (lvp b adr lv).filter (fun q => !(q.1 == i) && !(q.1 + 1 == i && q.2.category == 2)))) : Lv b adr nL (lst1 lv i v) ls' := by
  refine ⟨h.1, h.2.1, fun j w hj => ?_⟩
  rcases lst1_at lv i v j w hj with ⟨rfl, rfl⟩ | ⟨q1, q2, q3⟩
  · exact h.2.2 _ List.mem_cons_self
  · refine h.2.2 (j, rv b adr w) (List.mem_cons_of_mem _ (List.mem_filter.mpr ⟨lvp_in q2, ?_⟩))
    simp [q1, rv_cat]
    exact Decidable.not_and_iff_not_or_not.mp q3
theorem Lv.st2 {b : Nat} {adr : Nat → Nat} {nL i : Nat} {lv : List (Option Value)} {v : Value} {ls' : Array Slot} (h : lv_has ls' nL ((i, rv b adr v) :: (lvp b adr lv).filter (fun q => !(q.1 == i) && (!(q.1 == i + 1) && !(q.1 + 1 == i && q.2.category == 2))))) : Lv b adr nL (lst2 lv i v) ls' := by
  refine ⟨h.1, h.2.1, fun j w hj => ?_⟩
  rcases lst2_at lv i v j w hj with ⟨rfl, rfl⟩ | ⟨q1, q0, q2, q3⟩
  · exact h.2.2 _ List.mem_cons_self
  · refine h.2.2 (j, rv b adr w) (List.mem_cons_of_mem _ (List.mem_filter.mpr ⟨lvp_in q2, ?_⟩))
    simp [q1, q0, rv_cat]
    exact Decidable.not_and_iff_not_or_not.mp q3
/-! the world, the context, the judgement -/
def NoD (sh : List Sh) (h : Hp) : Prop := ∀ j i x : Nat, h.2.2 j i = some x → x < sh.length
def Wd (s : State) (D : va_G) (cyc : FieldType → ClassId) (A : Nat → Prop) (n0 : Nat) (ad0 adr : Nat → Nat) (sh : List Sh) (h : Hp) (H : Heap) (locs : List Loc) : Prop :=
  va_P D vwCl (wsl cyc adr h sh) H ∧ va_D A (wsl cyc adr h sh) ∧ va_S A s.heap H locs ∧ (∀ k, k < n0 → adr k = ad0 k) ∧ (sh.length = n0 → adr = ad0) ∧ n0 ≤ sh.length ∧ NoD sh h
def RtOk (ret : Option FieldType) (v : Option Value) (i : Instr) : Prop := match v with
  | none => i = .return_ ∧ ret = none
  | some (.int x) => i = .ireturn ∧ ∃ ty, ret = some ty ∧ narrow ty (.int x) = .int x
  | some (.long _) => i = .lreturn ∧ ret = some .long
  | some .null => i = .areturn ∧ ∃ n, ret = some (.object n)
  | some (.ref _) => i = .areturn ∧ ∃ n, ret = some (.object n)
  | _ => False
def Cx (M : MI) (scr : Option (Nat × (Nat → Int32))) (Q : QT) (p : Program) (l : Launch) (e : Env) (s : State) (m : MethodId) (args : Array Value) (below : List Frame) (meth : Method) (c : Code) (D : va_G) (cyc : FieldType → ClassId) (A : Nat → Prop) (Z : State → Prop) (n0 b : Nat) (ad0 : Nat → Nat) : Prop :=
  p.tables.exec = Jvm.exec ∧ c.code = M.2.1 ∧ c.maxLocals = M.2.2.1 ∧ s.vm.findClass M.1.cls = some m.cls ∧ (∀ w ∈ mGood, w.before args s = true) ∧ (∀ w ∈ mNest, va_Nw w s) ∧ va_AO RX3 s ∧ meth.name = M.1.name ∧ (∀ q, s.heap.size ≤ q → A q) ∧ va_K D vwCl (tysL cyc) s ∧
  (∀ (L : Nat) (xs : Nat → Int32), scr = some (L, xs) → va_X b L xs s s.heap ∧ b < s.heap.size ∧ ¬ A b) ∧
  (∀ (v : Option Value) (i : Instr) (sh : List Sh) (h : Hp) (adr : Nat → Nat) (H : Heap) (locs : List Loc) (pc : Nat) (ls : Array Slot), Q v sh h → Wd s D cyc A n0 ad0 adr sh h H locs → RtOk M.2.2.2.1 v i → decode M.2.1 pc = .ok (i, 1) → W p l e M.2.2.2.2 s m args below meth c H locs M.2.2.2.2.cells M.2.2.2.2.slots Z (F0 m pc ls (v.toList.map (rv b adr))))
def E (M : MI) (scr : Option (Nat × (Nat → Int32))) (Q : QT) (pc : Nat) (lv : List (Option Value)) (st : List Value) (sh : List Sh) (h : Hp) (kc ks : Nat) : Prop :=
  ∀ (p : Program) (l : Launch) (e : Env) (s : State) (m : MethodId) (args : Array Value) (below : List Frame) (meth : Method) (c : Code) (D : va_G) (cyc : FieldType → ClassId) (A : Nat → Prop) (Z : State → Prop) (n0 b : Nat) (ad0 : Nat → Nat), Cx M scr Q p l e s m args below meth c D cyc A Z n0 b ad0 →
  ∀ (adr : Nat → Nat) (locs : List Loc) (H : Heap) (ls : Array Slot), Wd s D cyc A n0 ad0 adr sh h H locs → Lv b adr M.2.2.1 lv ls →
  W p l e M.2.2.2.2 s m args below meth c H locs kc ks Z (F0 m pc ls (st.map (rv b adr)))

section ER
variable {M : MI} {scr : Option (Nat × (Nat → Int32))} {Q : QT} {pc : Nat} {lv : List (Option Value)} {st : List Value} {sh : List Sh} {h : Hp} {kc ks : Nat}
theorem E_iconst {n : Int} (hd : decode M.2.1 pc = .ok (.iconst n, 1)) (k : E M scr Q (pc + 1) lv (.int (Int32.ofInt n) :: st) sh h kc ks) : E M scr Q pc lv (st) sh h kc ks := by
  intro p l e s m args below meth c D cyc A Z n0 b ad0 C adr locs H ls w hl
  exact lv_iconst C.1 C.2.1 hd rfl (k p l e s m args below meth c D cyc A Z n0 b ad0 C adr locs H ls w hl)
theorem E_bipush {n : Int} (hd : decode M.2.1 pc = .ok (.bipush n, 2)) (k : E M scr Q (pc + 2) lv (.int (Int8.ofInt n).toInt32 :: st) sh h kc ks) : E M scr Q pc lv (st) sh h kc ks := by
  intro p l e s m args below meth c D cyc A Z n0 b ad0 C adr locs H ls w hl
  exact lv_bipush C.1 C.2.1 hd rfl (k p l e s m args below meth c D cyc A Z n0 b ad0 C adr locs H ls w hl)
theorem E_sipush {n : Int} (hd : decode M.2.1 pc = .ok (.sipush n, 3)) (k : E M scr Q (pc + 3) lv (.int (Int16.ofInt n).toInt32 :: st) sh h kc ks) : E M scr Q pc lv (st) sh h kc ks := by
  intro p l e s m args below meth c D cyc A Z n0 b ad0 C adr locs H ls w hl
  exact lv_sipush C.1 C.2.1 hd rfl (k p l e s m args below meth c D cyc A Z n0 b ad0 C adr locs H ls w hl)
theorem E_ic {n : Int} (x : Int32) (hd : decode M.2.1 pc = .ok (.iconst n, 1)) (hx : Int32.ofInt n = x) (k : E M scr Q (pc + 1) lv (.int x :: st) sh h kc ks) : E M scr Q pc lv st sh h kc ks := by
  intro p l e s m args below meth c D cyc A Z n0 b ad0 C adr locs H ls w hl
  exact lv_iconst C.1 C.2.1 hd hx (k p l e s m args below meth c D cyc A Z n0 b ad0 C adr locs H ls w hl)
theorem E_bi {n : Int} (x : Int32) (hd : decode M.2.1 pc = .ok (.bipush n, 2)) (hx : (Int8.ofInt n).toInt32 = x) (k : E M scr Q (pc + 2) lv (.int x :: st) sh h kc ks) : E M scr Q pc lv st sh h kc ks := by
  intro p l e s m args below meth c D cyc A Z n0 b ad0 C adr locs H ls w hl
  exact lv_bipush C.1 C.2.1 hd hx (k p l e s m args below meth c D cyc A Z n0 b ad0 C adr locs H ls w hl)
theorem E_si {n : Int} (x : Int32) (hd : decode M.2.1 pc = .ok (.sipush n, 3)) (hx : (Int16.ofInt n).toInt32 = x) (k : E M scr Q (pc + 3) lv (.int x :: st) sh h kc ks) : E M scr Q pc lv st sh h kc ks := by
  intro p l e s m args below meth c D cyc A Z n0 b ad0 C adr locs H ls w hl
  exact lv_sipush C.1 C.2.1 hd hx (k p l e s m args below meth c D cyc A Z n0 b ad0 C adr locs H ls w hl)
theorem E_lc {n : Fin 2} (x : Int64) (hd : decode M.2.1 pc = .ok (.lconst n, 1)) (hx : Int64.ofNat (n : Nat) = x) (k : E M scr Q (pc + 1) lv (.long x :: st) sh h kc ks) : E M scr Q pc lv st sh h kc ks := by
  intro p l e s m args below meth c D cyc A Z n0 b ad0 C adr locs H ls w hl
  exact lv_lconst C.1 C.2.1 hd hx (k p l e s m args below meth c D cyc A Z n0 b ad0 C adr locs H ls w hl)
theorem E_ldc2 {i : Nat} {x : Int64} (hd : decode M.2.1 pc = .ok (.ldc2_w i, 3)) (hc : Cond.constantLong M.1.cls i x ∈ mGood) (k : E M scr Q (pc + 3) lv (.long x :: st) sh h kc ks) : E M scr Q pc lv st sh h kc ks := by
  intro p l e s m args below meth c D cyc A Z n0 b ad0 C adr locs H ls w hl
  exact lv_ldc2 C.1 C.2.1 C.2.2.2.1 (C.2.2.2.2.1 _ hc) hd (k p l e s m args below meth c D cyc A Z n0 b ad0 C adr locs H ls w hl)
theorem E_iadd {x y : Int32} (hd : decode M.2.1 pc = .ok (.iadd, 1)) (k : E M scr Q (pc + 1) lv (.int (x + y) :: st) sh h kc ks) : E M scr Q pc lv (.int y :: .int x :: st) sh h kc ks := by
  intro p l e s m args below meth c D cyc A Z n0 b ad0 C adr locs H ls w hl
  exact lv_iadd C.1 C.2.1 hd (k p l e s m args below meth c D cyc A Z n0 b ad0 C adr locs H ls w hl)
theorem E_isub {x y : Int32} (hd : decode M.2.1 pc = .ok (.isub, 1)) (k : E M scr Q (pc + 1) lv (.int (x - y) :: st) sh h kc ks) : E M scr Q pc lv (.int y :: .int x :: st) sh h kc ks := by
  intro p l e s m args below meth c D cyc A Z n0 b ad0 C adr locs H ls w hl
  exact lv_isub C.1 C.2.1 hd (k p l e s m args below meth c D cyc A Z n0 b ad0 C adr locs H ls w hl)
theorem E_imul {x y : Int32} (hd : decode M.2.1 pc = .ok (.imul, 1)) (k : E M scr Q (pc + 1) lv (.int (x * y) :: st) sh h kc ks) : E M scr Q pc lv (.int y :: .int x :: st) sh h kc ks := by
  intro p l e s m args below meth c D cyc A Z n0 b ad0 C adr locs H ls w hl
  exact lv_imul C.1 C.2.1 hd (k p l e s m args below meth c D cyc A Z n0 b ad0 C adr locs H ls w hl)
theorem E_iand {x y : Int32} (hd : decode M.2.1 pc = .ok (.iand, 1)) (k : E M scr Q (pc + 1) lv (.int (x &&& y) :: st) sh h kc ks) : E M scr Q pc lv (.int y :: .int x :: st) sh h kc ks := by
  intro p l e s m args below meth c D cyc A Z n0 b ad0 C adr locs H ls w hl
  exact lv_iand C.1 C.2.1 hd (k p l e s m args below meth c D cyc A Z n0 b ad0 C adr locs H ls w hl)
theorem E_ior {x y : Int32} (hd : decode M.2.1 pc = .ok (.ior, 1)) (k : E M scr Q (pc + 1) lv (.int (x ||| y) :: st) sh h kc ks) : E M scr Q pc lv (.int y :: .int x :: st) sh h kc ks := by
  intro p l e s m args below meth c D cyc A Z n0 b ad0 C adr locs H ls w hl
  exact lv_ior C.1 C.2.1 hd (k p l e s m args below meth c D cyc A Z n0 b ad0 C adr locs H ls w hl)
theorem E_ixor {x y : Int32} (hd : decode M.2.1 pc = .ok (.ixor, 1)) (k : E M scr Q (pc + 1) lv (.int (x ^^^ y) :: st) sh h kc ks) : E M scr Q pc lv (.int y :: .int x :: st) sh h kc ks := by
  intro p l e s m args below meth c D cyc A Z n0 b ad0 C adr locs H ls w hl
  exact lv_ixor C.1 C.2.1 hd (k p l e s m args below meth c D cyc A Z n0 b ad0 C adr locs H ls w hl)
theorem E_ladd {x y : Int64} (hd : decode M.2.1 pc = .ok (.ladd, 1)) (k : E M scr Q (pc + 1) lv (.long (x + y) :: st) sh h kc ks) : E M scr Q pc lv (.long y :: .long x :: st) sh h kc ks := by
  intro p l e s m args below meth c D cyc A Z n0 b ad0 C adr locs H ls w hl
  exact lv_ladd C.1 C.2.1 hd (k p l e s m args below meth c D cyc A Z n0 b ad0 C adr locs H ls w hl)
theorem E_lsub {x y : Int64} (hd : decode M.2.1 pc = .ok (.lsub, 1)) (k : E M scr Q (pc + 1) lv (.long (x - y) :: st) sh h kc ks) : E M scr Q pc lv (.long y :: .long x :: st) sh h kc ks := by
  intro p l e s m args below meth c D cyc A Z n0 b ad0 C adr locs H ls w hl
  exact lv_lsub C.1 C.2.1 hd (k p l e s m args below meth c D cyc A Z n0 b ad0 C adr locs H ls w hl)
theorem E_lmul {x y : Int64} (hd : decode M.2.1 pc = .ok (.lmul, 1)) (k : E M scr Q (pc + 1) lv (.long (x * y) :: st) sh h kc ks) : E M scr Q pc lv (.long y :: .long x :: st) sh h kc ks := by
  intro p l e s m args below meth c D cyc A Z n0 b ad0 C adr locs H ls w hl
  exact lv_lmul C.1 C.2.1 hd (k p l e s m args below meth c D cyc A Z n0 b ad0 C adr locs H ls w hl)
theorem E_land {x y : Int64} (hd : decode M.2.1 pc = .ok (.land, 1)) (k : E M scr Q (pc + 1) lv (.long (x &&& y) :: st) sh h kc ks) : E M scr Q pc lv (.long y :: .long x :: st) sh h kc ks := by
  intro p l e s m args below meth c D cyc A Z n0 b ad0 C adr locs H ls w hl
  exact lv_land C.1 C.2.1 hd (k p l e s m args below meth c D cyc A Z n0 b ad0 C adr locs H ls w hl)
theorem E_lor {x y : Int64} (hd : decode M.2.1 pc = .ok (.lor, 1)) (k : E M scr Q (pc + 1) lv (.long (x ||| y) :: st) sh h kc ks) : E M scr Q pc lv (.long y :: .long x :: st) sh h kc ks := by
  intro p l e s m args below meth c D cyc A Z n0 b ad0 C adr locs H ls w hl
  exact lv_lor C.1 C.2.1 hd (k p l e s m args below meth c D cyc A Z n0 b ad0 C adr locs H ls w hl)
theorem E_lxor {x y : Int64} (hd : decode M.2.1 pc = .ok (.lxor, 1)) (k : E M scr Q (pc + 1) lv (.long (x ^^^ y) :: st) sh h kc ks) : E M scr Q pc lv (.long y :: .long x :: st) sh h kc ks := by
  intro p l e s m args below meth c D cyc A Z n0 b ad0 C adr locs H ls w hl
  exact lv_lxor C.1 C.2.1 hd (k p l e s m args below meth c D cyc A Z n0 b ad0 C adr locs H ls w hl)
theorem E_idiv {x y : Int32} (hne : ¬ y = 0) (hd : decode M.2.1 pc = .ok (.idiv, 1)) (k : E M scr Q (pc + 1) lv (.int (x / y) :: st) sh h kc ks) : E M scr Q pc lv (.int y :: .int x :: st) sh h kc ks := by
  intro p l e s m args below meth c D cyc A Z n0 b ad0 C adr locs H ls w hl
  exact lv_idiv C.1 C.2.1 hd hne (k p l e s m args below meth c D cyc A Z n0 b ad0 C adr locs H ls w hl)
theorem E_lrem {x y : Int64} (hne : ¬ y = 0) (hd : decode M.2.1 pc = .ok (.lrem, 1)) (k : E M scr Q (pc + 1) lv (.long (x - x / y * y) :: st) sh h kc ks) : E M scr Q pc lv (.long y :: .long x :: st) sh h kc ks := by
  intro p l e s m args below meth c D cyc A Z n0 b ad0 C adr locs H ls w hl
  exact lv_lrem C.1 C.2.1 hd hne (k p l e s m args below meth c D cyc A Z n0 b ad0 C adr locs H ls w hl)
theorem E_lshl {x : Int64} {y : Int32} (hd : decode M.2.1 pc = .ok (.lshl, 1)) (k : E M scr Q (pc + 1) lv (.long (x <<< (y.toInt64 &&& 63)) :: st) sh h kc ks) : E M scr Q pc lv (.int y :: .long x :: st) sh h kc ks := by
  intro p l e s m args below meth c D cyc A Z n0 b ad0 C adr locs H ls w hl
  exact lv_lshl C.1 C.2.1 hd rfl (k p l e s m args below meth c D cyc A Z n0 b ad0 C adr locs H ls w hl)
theorem E_lshr {x : Int64} {y : Int32} (hd : decode M.2.1 pc = .ok (.lshr, 1)) (k : E M scr Q (pc + 1) lv (.long (x >>> (y.toInt64 &&& 63)) :: st) sh h kc ks) : E M scr Q pc lv (.int y :: .long x :: st) sh h kc ks := by
  intro p l e s m args below meth c D cyc A Z n0 b ad0 C adr locs H ls w hl
  exact lv_lshr C.1 C.2.1 hd rfl (k p l e s m args below meth c D cyc A Z n0 b ad0 C adr locs H ls w hl)
theorem E_lushr {x : Int64} {y : Int32} (hd : decode M.2.1 pc = .ok (.lushr, 1)) (k : E M scr Q (pc + 1) lv (.long ((x.toUInt64 >>> (y.toInt64.toUInt64 &&& Int64.toUInt64 63)).toInt64) :: st) sh h kc ks) : E M scr Q pc lv (.int y :: .long x :: st) sh h kc ks := by
  intro p l e s m args below meth c D cyc A Z n0 b ad0 C adr locs H ls w hl
  exact lv_lushr C.1 C.2.1 hd rfl (k p l e s m args below meth c D cyc A Z n0 b ad0 C adr locs H ls w hl)
theorem E_i2l {x : Int32} (hd : decode M.2.1 pc = .ok (.i2l, 1)) (k : E M scr Q (pc + 1) lv (.long x.toInt64 :: st) sh h kc ks) : E M scr Q pc lv (.int x :: st) sh h kc ks := by
  intro p l e s m args below meth c D cyc A Z n0 b ad0 C adr locs H ls w hl
  exact lv_i2l C.1 C.2.1 hd rfl (k p l e s m args below meth c D cyc A Z n0 b ad0 C adr locs H ls w hl)
theorem E_l2i {x : Int64} (hd : decode M.2.1 pc = .ok (.l2i, 1)) (k : E M scr Q (pc + 1) lv (.int x.toInt32 :: st) sh h kc ks) : E M scr Q pc lv (.long x :: st) sh h kc ks := by
  intro p l e s m args below meth c D cyc A Z n0 b ad0 C adr locs H ls w hl
  exact lv_l2i C.1 C.2.1 hd rfl (k p l e s m args below meth c D cyc A Z n0 b ad0 C adr locs H ls w hl)
theorem E_i2b {x : Int32} (hd : decode M.2.1 pc = .ok (.i2b, 1)) (k : E M scr Q (pc + 1) lv (.int x.toInt8.toInt32 :: st) sh h kc ks) : E M scr Q pc lv (.int x :: st) sh h kc ks := by
  intro p l e s m args below meth c D cyc A Z n0 b ad0 C adr locs H ls w hl
  exact lv_i2b C.1 C.2.1 hd rfl (k p l e s m args below meth c D cyc A Z n0 b ad0 C adr locs H ls w hl)
theorem E_lcmp {x y : Int64} (hd : decode M.2.1 pc = .ok (.lcmp, 1)) (k : E M scr Q (pc + 1) lv (.int (lg_cmp x y) :: st) sh h kc ks) : E M scr Q pc lv (.long y :: .long x :: st) sh h kc ks := by
  intro p l e s m args below meth c D cyc A Z n0 b ad0 C adr locs H ls w hl
  exact W.lcmp C.1 C.2.1 hd (k p l e s m args below meth c D cyc A Z n0 b ad0 C adr locs H ls w hl)
theorem E_dup {v : Value} (hv : v.category = 1) (hd : decode M.2.1 pc = .ok (.dup, 1)) (k : E M scr Q (pc + 1) lv (v :: v :: st) sh h kc ks) : E M scr Q pc lv (v :: st) sh h kc ks := by
  intro p l e s m args below meth c D cyc A Z n0 b ad0 C adr locs H ls w hl
  exact lv_dup C.1 C.2.1 hd (by rw [rv_cat]; exact hv) (k p l e s m args below meth c D cyc A Z n0 b ad0 C adr locs H ls w hl)
theorem E_pop {v : Value} (hv : v.category = 1) (hd : decode M.2.1 pc = .ok (.pop, 1)) (k : E M scr Q (pc + 1) lv (st) sh h kc ks) : E M scr Q pc lv (v :: st) sh h kc ks := by
  intro p l e s m args below meth c D cyc A Z n0 b ad0 C adr locs H ls w hl
  exact lv_pop C.1 C.2.1 hd (by rw [rv_cat]; exact hv) (k p l e s m args below meth c D cyc A Z n0 b ad0 C adr locs H ls w hl)
theorem E_dup2_2 {v : Value} (hv : v.category = 2) (hd : decode M.2.1 pc = .ok (.dup2, 1)) (k : E M scr Q (pc + 1) lv (v :: v :: st) sh h kc ks) : E M scr Q pc lv (v :: st) sh h kc ks := by
  intro p l e s m args below meth c D cyc A Z n0 b ad0 C adr locs H ls w hl
  exact lv_dup2_2 C.1 C.2.1 hd (by rw [rv_cat]; exact hv) (k p l e s m args below meth c D cyc A Z n0 b ad0 C adr locs H ls w hl)
theorem E_dup2 {v u : Value} (hv : v.category = 1) (hu : u.category = 1) (hd : decode M.2.1 pc = .ok (.dup2, 1)) (k : E M scr Q (pc + 1) lv (v :: u :: v :: u :: st) sh h kc ks) : E M scr Q pc lv (v :: u :: st) sh h kc ks := by
  intro p l e s m args below meth c D cyc A Z n0 b ad0 C adr locs H ls w hl
  exact lv_dup2_11 C.1 C.2.1 hd (by rw [rv_cat]; exact hv) (by rw [rv_cat]; exact hu) (k p l e s m args below meth c D cyc A Z n0 b ad0 C adr locs H ls w hl)
theorem E_null  (hd : decode M.2.1 pc = .ok (.aconst_null, 1)) (k : E M scr Q (pc + 1) lv (.null :: st) sh h kc ks) : E M scr Q pc lv (st) sh h kc ks := by
  intro p l e s m args below meth c D cyc A Z n0 b ad0 C adr locs H ls w hl
  exact lv_null C.1 C.2.1 hd (k p l e s m args below meth c D cyc A Z n0 b ad0 C adr locs H ls w hl)
theorem E_iload_n {n : Fin 4} {x : Int32} (hd : decode M.2.1 pc = .ok (.iload_n n, 1)) (hv : lv[n.val]? = some (some (.int x))) (k : E M scr Q (pc + 1) lv (.int x :: st) sh h kc ks) : E M scr Q pc lv st sh h kc ks := by
  intro p l e s m args below meth c D cyc A Z n0 b ad0 C adr locs H ls w hl
  exact lv_iload_n C.1 C.2.1 hd rfl (hl.2.2 _ _ hv) (k p l e s m args below meth c D cyc A Z n0 b ad0 C adr locs H ls w hl)
theorem E_iload {n : Nat} {x : Int32} (hd : decode M.2.1 pc = .ok (.iload n, 2)) (hv : lv[n]? = some (some (.int x))) (k : E M scr Q (pc + 2) lv (.int x :: st) sh h kc ks) : E M scr Q pc lv st sh h kc ks := by
  intro p l e s m args below meth c D cyc A Z n0 b ad0 C adr locs H ls w hl
  exact lv_iload C.1 C.2.1 hd (hl.2.2 _ _ hv) (k p l e s m args below meth c D cyc A Z n0 b ad0 C adr locs H ls w hl)
theorem E_lload_n {n : Fin 4} {x : Int64} (hd : decode M.2.1 pc = .ok (.lload_n n, 1)) (hv : lv[n.val]? = some (some (.long x))) (k : E M scr Q (pc + 1) lv (.long x :: st) sh h kc ks) : E M scr Q pc lv st sh h kc ks := by
  intro p l e s m args below meth c D cyc A Z n0 b ad0 C adr locs H ls w hl
  exact lv_lload_n C.1 C.2.1 hd rfl (hl.2.2 _ _ hv) (k p l e s m args below meth c D cyc A Z n0 b ad0 C adr locs H ls w hl)
theorem E_lload {n : Nat} {x : Int64} (hd : decode M.2.1 pc = .ok (.lload n, 2)) (hv : lv[n]? = some (some (.long x))) (k : E M scr Q (pc + 2) lv (.long x :: st) sh h kc ks) : E M scr Q pc lv st sh h kc ks := by
  intro p l e s m args below meth c D cyc A Z n0 b ad0 C adr locs H ls w hl
  exact lv_lload C.1 C.2.1 hd (hl.2.2 _ _ hv) (k p l e s m args below meth c D cyc A Z n0 b ad0 C adr locs H ls w hl)
theorem E_aload_n {n : Fin 4} {x : Nat} (hd : decode M.2.1 pc = .ok (.aload_n n, 1)) (hv : lv[n.val]? = some (some (.ref x))) (k : E M scr Q (pc + 1) lv (.ref x :: st) sh h kc ks) : E M scr Q pc lv st sh h kc ks := by
  intro p l e s m args below meth c D cyc A Z n0 b ad0 C adr locs H ls w hl
  exact lv_aload_n C.1 C.2.1 hd rfl (hl.2.2 _ _ hv) (k p l e s m args below meth c D cyc A Z n0 b ad0 C adr locs H ls w hl)
theorem E_aload {n : Nat} {x : Nat} (hd : decode M.2.1 pc = .ok (.aload n, 2)) (hv : lv[n]? = some (some (.ref x))) (k : E M scr Q (pc + 2) lv (.ref x :: st) sh h kc ks) : E M scr Q pc lv st sh h kc ks := by
  intro p l e s m args below meth c D cyc A Z n0 b ad0 C adr locs H ls w hl
  exact lv_aload C.1 C.2.1 hd (hl.2.2 _ _ hv) (k p l e s m args below meth c D cyc A Z n0 b ad0 C adr locs H ls w hl)
theorem E_aload_nN {n : Fin 4} (hd : decode M.2.1 pc = .ok (.aload_n n, 1)) (hv : lv[n.val]? = some (some .null)) (k : E M scr Q (pc + 1) lv (.null :: st) sh h kc ks) : E M scr Q pc lv st sh h kc ks := by
  intro p l e s m args below meth c D cyc A Z n0 b ad0 C adr locs H ls w hl
  exact lv_aload_nN C.1 C.2.1 hd rfl (hl.2.2 _ _ hv) (k p l e s m args below meth c D cyc A Z n0 b ad0 C adr locs H ls w hl)
theorem E_aloadN {n : Nat} (hd : decode M.2.1 pc = .ok (.aload n, 2)) (hv : lv[n]? = some (some .null)) (k : E M scr Q (pc + 2) lv (.null :: st) sh h kc ks) : E M scr Q pc lv st sh h kc ks := by
  intro p l e s m args below meth c D cyc A Z n0 b ad0 C adr locs H ls w hl
  exact lv_aloadN C.1 C.2.1 hd (hl.2.2 _ _ hv) (k p l e s m args below meth c D cyc A Z n0 b ad0 C adr locs H ls w hl)
theorem E_aload_nS {n : Fin 4} (hd : decode M.2.1 pc = .ok (.aload_n n, 1)) (hv : lv[n.val]? = some (some (.retAddr 0))) (k : E M scr Q (pc + 1) lv (.retAddr 0 :: st) sh h kc ks) : E M scr Q pc lv st sh h kc ks := by
  intro p l e s m args below meth c D cyc A Z n0 b ad0 C adr locs H ls w hl
  exact lv_aload_n C.1 C.2.1 hd rfl (hl.2.2 _ _ hv) (k p l e s m args below meth c D cyc A Z n0 b ad0 C adr locs H ls w hl)
theorem E_istore_n {n : Fin 4} {x : Int32} (hd : decode M.2.1 pc = .ok (.istore_n n, 1)) (hn : n.val < M.2.2.1) (k : E M scr Q (pc + 1) (lst1 lv n.val (.int x)) st sh h kc ks) : E M scr Q pc lv (.int x :: st) sh h kc ks := by
  intro p l e s m args below meth c D cyc A Z n0 b ad0 C adr locs H ls w hl
  exact lv_istore_n C.1 C.2.1 hd rfl hl.has hn rfl (fun ls2 h2 => k p l e s m args below meth c D cyc A Z n0 b ad0 C adr locs H ls2 w (Lv.st1 h2))
theorem E_istore {n : Nat} {x : Int32} (hd : decode M.2.1 pc = .ok (.istore n, 2)) (hn : n < M.2.2.1) (k : E M scr Q (pc + 2) (lst1 lv n (.int x)) st sh h kc ks) : E M scr Q pc lv (.int x :: st) sh h kc ks := by
  intro p l e s m args below meth c D cyc A Z n0 b ad0 C adr locs H ls w hl
  exact lv_istore C.1 C.2.1 hd hl.has hn rfl (fun ls2 h2 => k p l e s m args below meth c D cyc A Z n0 b ad0 C adr locs H ls2 w (Lv.st1 h2))
theorem E_lstore_n {n : Fin 4} {x : Int64} (hd : decode M.2.1 pc = .ok (.lstore_n n, 1)) (hn : n.val + 1 < M.2.2.1) (k : E M scr Q (pc + 1) (lst2 lv n.val (.long x)) st sh h kc ks) : E M scr Q pc lv (.long x :: st) sh h kc ks := by
  intro p l e s m args below meth c D cyc A Z n0 b ad0 C adr locs H ls w hl
  exact lv_lstore_n C.1 C.2.1 hd rfl hl.has hn rfl (fun ls2 h2 => k p l e s m args below meth c D cyc A Z n0 b ad0 C adr locs H ls2 w (Lv.st2 h2))
theorem E_lstore {n : Nat} {x : Int64} (hd : decode M.2.1 pc = .ok (.lstore n, 2)) (hn : n + 1 < M.2.2.1) (k : E M scr Q (pc + 2) (lst2 lv n (.long x)) st sh h kc ks) : E M scr Q pc lv (.long x :: st) sh h kc ks := by
  intro p l e s m args below meth c D cyc A Z n0 b ad0 C adr locs H ls w hl
  exact lv_lstore C.1 C.2.1 hd hl.has hn rfl (fun ls2 h2 => k p l e s m args below meth c D cyc A Z n0 b ad0 C adr locs H ls2 w (Lv.st2 h2))
theorem E_astore_n {n : Fin 4} {x : Nat} (hd : decode M.2.1 pc = .ok (.astore_n n, 1)) (hn : n.val < M.2.2.1) (k : E M scr Q (pc + 1) (lst1 lv n.val (.ref x)) st sh h kc ks) : E M scr Q pc lv (.ref x :: st) sh h kc ks := by
  intro p l e s m args below meth c D cyc A Z n0 b ad0 C adr locs H ls w hl
  exact lv_astore_n C.1 C.2.1 hd rfl hl.has hn rfl (fun ls2 h2 => k p l e s m args below meth c D cyc A Z n0 b ad0 C adr locs H ls2 w (Lv.st1 h2))
theorem E_astore {n : Nat} {x : Nat} (hd : decode M.2.1 pc = .ok (.astore n, 2)) (hn : n < M.2.2.1) (k : E M scr Q (pc + 2) (lst1 lv n (.ref x)) st sh h kc ks) : E M scr Q pc lv (.ref x :: st) sh h kc ks := by
  intro p l e s m args below meth c D cyc A Z n0 b ad0 C adr locs H ls w hl
  exact lv_astore C.1 C.2.1 hd hl.has hn rfl (fun ls2 h2 => k p l e s m args below meth c D cyc A Z n0 b ad0 C adr locs H ls2 w (Lv.st1 h2))
theorem E_astore_nN {n : Fin 4} (hd : decode M.2.1 pc = .ok (.astore_n n, 1)) (hn : n.val < M.2.2.1) (k : E M scr Q (pc + 1) (lst1 lv n.val .null) st sh h kc ks) : E M scr Q pc lv (.null :: st) sh h kc ks := by
  intro p l e s m args below meth c D cyc A Z n0 b ad0 C adr locs H ls w hl
  exact lv_astore_nN C.1 C.2.1 hd rfl hl.has hn rfl (fun ls2 h2 => k p l e s m args below meth c D cyc A Z n0 b ad0 C adr locs H ls2 w (Lv.st1 (v := .null) h2))
theorem E_astoreN {n : Nat} (hd : decode M.2.1 pc = .ok (.astore n, 2)) (hn : n < M.2.2.1) (k : E M scr Q (pc + 2) (lst1 lv n .null) st sh h kc ks) : E M scr Q pc lv (.null :: st) sh h kc ks := by
  intro p l e s m args below meth c D cyc A Z n0 b ad0 C adr locs H ls w hl
  exact lv_astoreN C.1 C.2.1 hd hl.has hn rfl (fun ls2 h2 => k p l e s m args below meth c D cyc A Z n0 b ad0 C adr locs H ls2 w (Lv.st1 (v := .null) h2))
theorem E_iinc {n : Nat} {z : Int} {x : Int32} (hd : decode M.2.1 pc = .ok (.iinc n z, 3)) (hv : lv[n]? = some (some (.int x))) (hn : n < M.2.2.1) (k : E M scr Q (pc + 3) (lst1 lv n (.int (x + Int32.ofInt z))) st sh h kc ks) : E M scr Q pc lv st sh h kc ks := by
  intro p l e s m args below meth c D cyc A Z n0 b ad0 C adr locs H ls w hl
  obtain ⟨i, hi⟩ := List.getElem?_of_mem (lvp_in (b := b) (adr := adr) hv)
  exact lv_iinc C.1 C.2.1 hd hl.has hi rfl hn rfl (fun ls2 h2 => k p l e s m args below meth c D cyc A Z n0 b ad0 C adr locs H ls2 w (Lv.st1 (v := .int (x + Int32.ofInt z)) h2))
theorem E_if_eq {x : Int32} {off : Int} (tgt : Nat) (hd : decode M.2.1 pc = .ok (.ifCond .eq off, 3)) (ht : (pc : Int) + off = (tgt : Int)) (k1 : x = 0 → E M scr Q tgt lv st sh h kc ks) (k2 : ¬ x = 0 → E M scr Q (pc + 3) lv st sh h kc ks) : E M scr Q pc lv (.int x :: st) sh h kc ks := by
  intro p l e s m args below meth c D cyc A Z n0 b ad0 C adr locs H ls w hl
  exact lv_if_eq C.1 C.2.1 hd ht (fun q => k1 q p l e s m args below meth c D cyc A Z n0 b ad0 C adr locs H ls w hl) (fun q => k2 q p l e s m args below meth c D cyc A Z n0 b ad0 C adr locs H ls w hl)
theorem E_icmp_eq {x y : Int32} {off : Int} (tgt : Nat) (hd : decode M.2.1 pc = .ok (.if_icmp .eq off, 3)) (ht : (pc : Int) + off = (tgt : Int)) (k1 : x = y → E M scr Q tgt lv st sh h kc ks) (k2 : ¬ x = y → E M scr Q (pc + 3) lv st sh h kc ks) : E M scr Q pc lv (.int y :: .int x :: st) sh h kc ks := by
  intro p l e s m args below meth c D cyc A Z n0 b ad0 C adr locs H ls w hl
  exact lv_icmp_eq C.1 C.2.1 hd ht (fun q => k1 q p l e s m args below meth c D cyc A Z n0 b ad0 C adr locs H ls w hl) (fun q => k2 q p l e s m args below meth c D cyc A Z n0 b ad0 C adr locs H ls w hl)
theorem E_if_ne {x : Int32} {off : Int} (tgt : Nat) (hd : decode M.2.1 pc = .ok (.ifCond .ne off, 3)) (ht : (pc : Int) + off = (tgt : Int)) (k1 : ¬ x = 0 → E M scr Q tgt lv st sh h kc ks) (k2 : x = 0 → E M scr Q (pc + 3) lv st sh h kc ks) : E M scr Q pc lv (.int x :: st) sh h kc ks := by
  intro p l e s m args below meth c D cyc A Z n0 b ad0 C adr locs H ls w hl
  exact lv_if_ne C.1 C.2.1 hd ht (fun q => k1 q p l e s m args below meth c D cyc A Z n0 b ad0 C adr locs H ls w hl) (fun q => k2 q p l e s m args below meth c D cyc A Z n0 b ad0 C adr locs H ls w hl)
theorem E_icmp_ne {x y : Int32} {off : Int} (tgt : Nat) (hd : decode M.2.1 pc = .ok (.if_icmp .ne off, 3)) (ht : (pc : Int) + off = (tgt : Int)) (k1 : ¬ x = y → E M scr Q tgt lv st sh h kc ks) (k2 : x = y → E M scr Q (pc + 3) lv st sh h kc ks) : E M scr Q pc lv (.int y :: .int x :: st) sh h kc ks := by
  intro p l e s m args below meth c D cyc A Z n0 b ad0 C adr locs H ls w hl
  exact lv_icmp_ne C.1 C.2.1 hd ht (fun q => k1 q p l e s m args below meth c D cyc A Z n0 b ad0 C adr locs H ls w hl) (fun q => k2 q p l e s m args below meth c D cyc A Z n0 b ad0 C adr locs H ls w hl)
theorem E_if_lt {x : Int32} {off : Int} (tgt : Nat) (hd : decode M.2.1 pc = .ok (.ifCond .lt off, 3)) (ht : (pc : Int) + off = (tgt : Int)) (k1 : x < 0 → E M scr Q tgt lv st sh h kc ks) (k2 : ¬ x < 0 → E M scr Q (pc + 3) lv st sh h kc ks) : E M scr Q pc lv (.int x :: st) sh h kc ks := by
  intro p l e s m args below meth c D cyc A Z n0 b ad0 C adr locs H ls w hl
  exact lv_if_lt C.1 C.2.1 hd ht (fun q => k1 q p l e s m args below meth c D cyc A Z n0 b ad0 C adr locs H ls w hl) (fun q => k2 q p l e s m args below meth c D cyc A Z n0 b ad0 C adr locs H ls w hl)
theorem E_icmp_lt {x y : Int32} {off : Int} (tgt : Nat) (hd : decode M.2.1 pc = .ok (.if_icmp .lt off, 3)) (ht : (pc : Int) + off = (tgt : Int)) (k1 : x < y → E M scr Q tgt lv st sh h kc ks) (k2 : ¬ x < y → E M scr Q (pc + 3) lv st sh h kc ks) : E M scr Q pc lv (.int y :: .int x :: st) sh h kc ks := by
  intro p l e s m args below meth c D cyc A Z n0 b ad0 C adr locs H ls w hl
  exact lv_icmp_lt C.1 C.2.1 hd ht (fun q => k1 q p l e s m args below meth c D cyc A Z n0 b ad0 C adr locs H ls w hl) (fun q => k2 q p l e s m args below meth c D cyc A Z n0 b ad0 C adr locs H ls w hl)
theorem E_if_ge {x : Int32} {off : Int} (tgt : Nat) (hd : decode M.2.1 pc = .ok (.ifCond .ge off, 3)) (ht : (pc : Int) + off = (tgt : Int)) (k1 : 0 ≤ x → E M scr Q tgt lv st sh h kc ks) (k2 : ¬ 0 ≤ x → E M scr Q (pc + 3) lv st sh h kc ks) : E M scr Q pc lv (.int x :: st) sh h kc ks := by
  intro p l e s m args below meth c D cyc A Z n0 b ad0 C adr locs H ls w hl
  exact lv_if_ge C.1 C.2.1 hd ht (fun q => k1 q p l e s m args below meth c D cyc A Z n0 b ad0 C adr locs H ls w hl) (fun q => k2 q p l e s m args below meth c D cyc A Z n0 b ad0 C adr locs H ls w hl)
theorem E_icmp_ge {x y : Int32} {off : Int} (tgt : Nat) (hd : decode M.2.1 pc = .ok (.if_icmp .ge off, 3)) (ht : (pc : Int) + off = (tgt : Int)) (k1 : y ≤ x → E M scr Q tgt lv st sh h kc ks) (k2 : ¬ y ≤ x → E M scr Q (pc + 3) lv st sh h kc ks) : E M scr Q pc lv (.int y :: .int x :: st) sh h kc ks := by
  intro p l e s m args below meth c D cyc A Z n0 b ad0 C adr locs H ls w hl
  exact lv_icmp_ge C.1 C.2.1 hd ht (fun q => k1 q p l e s m args below meth c D cyc A Z n0 b ad0 C adr locs H ls w hl) (fun q => k2 q p l e s m args below meth c D cyc A Z n0 b ad0 C adr locs H ls w hl)
theorem E_if_gt {x : Int32} {off : Int} (tgt : Nat) (hd : decode M.2.1 pc = .ok (.ifCond .gt off, 3)) (ht : (pc : Int) + off = (tgt : Int)) (k1 : 0 < x → E M scr Q tgt lv st sh h kc ks) (k2 : ¬ 0 < x → E M scr Q (pc + 3) lv st sh h kc ks) : E M scr Q pc lv (.int x :: st) sh h kc ks := by
  intro p l e s m args below meth c D cyc A Z n0 b ad0 C adr locs H ls w hl
  exact lv_if_gt C.1 C.2.1 hd ht (fun q => k1 q p l e s m args below meth c D cyc A Z n0 b ad0 C adr locs H ls w hl) (fun q => k2 q p l e s m args below meth c D cyc A Z n0 b ad0 C adr locs H ls w hl)
theorem E_icmp_gt {x y : Int32} {off : Int} (tgt : Nat) (hd : decode M.2.1 pc = .ok (.if_icmp .gt off, 3)) (ht : (pc : Int) + off = (tgt : Int)) (k1 : y < x → E M scr Q tgt lv st sh h kc ks) (k2 : ¬ y < x → E M scr Q (pc + 3) lv st sh h kc ks) : E M scr Q pc lv (.int y :: .int x :: st) sh h kc ks := by
  intro p l e s m args below meth c D cyc A Z n0 b ad0 C adr locs H ls w hl
  exact lv_icmp_gt C.1 C.2.1 hd ht (fun q => k1 q p l e s m args below meth c D cyc A Z n0 b ad0 C adr locs H ls w hl) (fun q => k2 q p l e s m args below meth c D cyc A Z n0 b ad0 C adr locs H ls w hl)
theorem E_if_le {x : Int32} {off : Int} (tgt : Nat) (hd : decode M.2.1 pc = .ok (.ifCond .le off, 3)) (ht : (pc : Int) + off = (tgt : Int)) (k1 : x ≤ 0 → E M scr Q tgt lv st sh h kc ks) (k2 : ¬ x ≤ 0 → E M scr Q (pc + 3) lv st sh h kc ks) : E M scr Q pc lv (.int x :: st) sh h kc ks := by
  intro p l e s m args below meth c D cyc A Z n0 b ad0 C adr locs H ls w hl
  exact lv_if_le C.1 C.2.1 hd ht (fun q => k1 q p l e s m args below meth c D cyc A Z n0 b ad0 C adr locs H ls w hl) (fun q => k2 q p l e s m args below meth c D cyc A Z n0 b ad0 C adr locs H ls w hl)
theorem E_icmp_le {x y : Int32} {off : Int} (tgt : Nat) (hd : decode M.2.1 pc = .ok (.if_icmp .le off, 3)) (ht : (pc : Int) + off = (tgt : Int)) (k1 : x ≤ y → E M scr Q tgt lv st sh h kc ks) (k2 : ¬ x ≤ y → E M scr Q (pc + 3) lv st sh h kc ks) : E M scr Q pc lv (.int y :: .int x :: st) sh h kc ks := by
  intro p l e s m args below meth c D cyc A Z n0 b ad0 C adr locs H ls w hl
  exact lv_icmp_le C.1 C.2.1 hd ht (fun q => k1 q p l e s m args below meth c D cyc A Z n0 b ad0 C adr locs H ls w hl) (fun q => k2 q p l e s m args below meth c D cyc A Z n0 b ad0 C adr locs H ls w hl)
theorem E_goto {off : Int} (tgt : Nat) (hd : decode M.2.1 pc = .ok (.goto off, 3)) (ht : (pc : Int) + off = (tgt : Int)) (k : E M scr Q tgt lv st sh h kc ks) : E M scr Q pc lv st sh h kc ks := by
  intro p l e s m args below meth c D cyc A Z n0 b ad0 C adr locs H ls w hl
  exact lv_goto C.1 C.2.1 hd ht (k p l e s m args below meth c D cyc A Z n0 b ad0 C adr locs H ls w hl)
theorem E_ifnull {x : Nat} {off : Int} (hd : decode M.2.1 pc = .ok (.ifnull off, 3)) (k : E M scr Q (pc + 3) lv st sh h kc ks) : E M scr Q pc lv (.ref x :: st) sh h kc ks := by
  intro p l e s m args below meth c D cyc A Z n0 b ad0 C adr locs H ls w hl
  exact lv_ifnull C.1 C.2.1 hd (k p l e s m args below meth c D cyc A Z n0 b ad0 C adr locs H ls w hl)
theorem E_ifnullN {off : Int} (tgt : Nat) (hd : decode M.2.1 pc = .ok (.ifnull off, 3)) (ht : (pc : Int) + off = (tgt : Int)) (k : E M scr Q tgt lv st sh h kc ks) : E M scr Q pc lv (.null :: st) sh h kc ks := by
  intro p l e s m args below meth c D cyc A Z n0 b ad0 C adr locs H ls w hl
  exact lv_ifnullN C.1 C.2.1 hd ht (k p l e s m args below meth c D cyc A Z n0 b ad0 C adr locs H ls w hl)
theorem E_ifnonnull {x : Nat} {off : Int} (tgt : Nat) (hd : decode M.2.1 pc = .ok (.ifnonnull off, 3)) (ht : (pc : Int) + off = (tgt : Int)) (k : E M scr Q tgt lv st sh h kc ks) : E M scr Q pc lv (.ref x :: st) sh h kc ks := by
  intro p l e s m args below meth c D cyc A Z n0 b ad0 C adr locs H ls w hl
  exact lv_ifnonnull C.1 C.2.1 hd ht (k p l e s m args below meth c D cyc A Z n0 b ad0 C adr locs H ls w hl)
theorem E_ifnonnullN {off : Int} (hd : decode M.2.1 pc = .ok (.ifnonnull off, 3)) (k : E M scr Q (pc + 3) lv st sh h kc ks) : E M scr Q pc lv (.null :: st) sh h kc ks := by
  intro p l e s m args below meth c D cyc A Z n0 b ad0 C adr locs H ls w hl
  exact lv_ifnonnullN C.1 C.2.1 hd (k p l e s m args below meth c D cyc A Z n0 b ad0 C adr locs H ls w hl)
theorem E_tabIn {x : Int32} {df lo hi : Int} {offs : Array Int} {len : Nat} {off : Int} (tgt : Nat) (hd : decode M.2.1 pc = .ok (.tableswitch df lo hi offs, len)) (h1 : ¬ x.toInt < lo) (h2 : ¬ hi < x.toInt) (ho : offs[(x.toInt - lo).toNat]? = some off) (ht : (pc : Int) + off = (tgt : Int)) (k : E M scr Q tgt lv st sh h kc ks) : E M scr Q pc lv (.int x :: st) sh h kc ks := by
  intro p l e s m args below meth c D cyc A Z n0 b ad0 C adr locs H ls w hl
  exact lv_tableIn C.1 C.2.1 hd h1 h2 ho ht (k p l e s m args below meth c D cyc A Z n0 b ad0 C adr locs H ls w hl)
theorem E_tabOut {x : Int32} {df lo hi : Int} {offs : Array Int} {len : Nat} (tgt : Nat) (hd : decode M.2.1 pc = .ok (.tableswitch df lo hi offs, len)) (h1 : x.toInt < lo ∨ hi < x.toInt) (ht : (pc : Int) + df = (tgt : Int)) (k : E M scr Q tgt lv st sh h kc ks) : E M scr Q pc lv (.int x :: st) sh h kc ks := by
  intro p l e s m args below meth c D cyc A Z n0 b ad0 C adr locs H ls w hl
  exact lv_tableOut C.1 C.2.1 hd h1 ht (k p l e s m args below meth c D cyc A Z n0 b ad0 C adr locs H ls w hl)
theorem E_ret (v : Option Value) {i : Instr} (hd : decode M.2.1 pc = .ok (i, 1)) (hr : RtOk M.2.2.2.1 v i) (hs : v.toList = st) (hc : kc ≤ M.2.2.2.2.cells) (hk : ks ≤ M.2.2.2.2.slots) (hq : Q v sh h) : E M scr Q pc lv st sh h kc ks := by
  intro p l e s m args below meth c D cyc A Z n0 b ad0 C adr locs H ls w hl
  subst hs
  exact W.widen hc hk (C.2.2.2.2.2.2.2.2.2.2.2 v i sh h adr H locs pc ls hq w hr hd)
theorem E_lv (lv' : List (Option Value)) (hl' : ∀ (i : Nat) (v : Value), lv'[i]? = some (some v) → lv[i]? = some (some v)) (k : E M scr Q pc lv' st sh h kc ks) : E M scr Q pc lv st sh h kc ks := by
  intro p l e s m args below meth c D cyc A Z n0 b ad0 C adr locs H ls w hl
  exact k p l e s m args below meth c D cyc A Z n0 b ad0 C adr locs H ls w ⟨hl.1, hl.2.1, fun i v q => hl.2.2 i v (hl' i v q)⟩
theorem E_heap {h' : Hp} (e : h = h') (k : E M scr Q pc lv st sh h' kc ks) : E M scr Q pc lv st sh h kc ks := e ▸ k
theorem E_st {st' : List Value} (e : st = st') (k : E M scr Q pc lv st' sh h kc ks) : E M scr Q pc lv st sh h kc ks := e ▸ k
end ER
end
section
/-! fields, arrays, new cells, calls -/
def FL (own : String) (idx ci k : Nat) (fin : Bool) : Prop := ∃ (C : String) (T : u_T), vwCl[ci]? = some (C, T, nfC ci) ∧ k < nfC ci ∧ (∀ w ∈ u_ws C T (nfC ci), w ∈ mGood) ∧ (∀ k, k < nfC ci → parseFieldDescriptor (T k).2.2.1 = some (tyC ci k)) ∧ (∀ a, a < nfC ci → ∀ b, b < nfC ci → a ≠ b → (T a).2.1 ≠ (T b).2.1) ∧ (T k).2.2.2 = fin ∧ (T k).1 = C ∧ ((Cond.fieldLink own idx (T k).1 (T k).2.1 (T k).2.2.1 ∈ mGood) ∨ ∃ host, Cond.fieldLinkNest own idx (T k).1 (T k).2.1 (T k).2.2.1 host ∈ mNest)
def gv (h : Hp) (a : Nat) (ty : FieldType) (k : Nat) : Value := match ty with
  | .long => .long (h.2.1 a k)
  | .object _ => va_rf (h.2.2 a k)
  | .array _ => va_rf (h.2.2 a k)
  | _ => .int (h.1 a k)
theorem gv_rv (b : Nat) (adr : Nat → Nat) (h : Hp) (a : Nat) (ty : FieldType) (k : Nat) : rv b adr (gv h a ty k) = fv adr h a ty k := by
  cases ty <;> first | rfl | exact (rv_rf b adr _).symm
theorem fs_at {adr : Nat → Nat} {h : Hp} {a ci k : Nat} (hk : k < nfC ci) : ((List.range (nfC ci)).map (fun j => fv adr h a (tyC ci j) j))[k]? = some (fv adr h a (tyC ci k) k) := by
  simp [hk]
theorem fs_set {adr : Nat → Nat} {h h' : Hp} {a ci k : Nat} {v : Value} (hv : fv adr h' a (tyC ci k) k = v) (ho : ∀ j, j ≠ k → fv adr h' a (tyC ci j) j = fv adr h a (tyC ci j) j) : ((List.range (nfC ci)).map (fun j => fv adr h a (tyC ci j) j)).set k v = (List.range (nfC ci)).map (fun j => fv adr h' a (tyC ci j) j) := by
  apply List.ext_getElem?
  intro i
  rw [List.getElem?_set]
  by_cases hi : k = i
  · subst hi
    by_cases hl : k < nfC ci
    · simp [hl, hv]
    · simp [hl]
  · simp only [hi]
    by_cases hl : i < nfC ci
    · simp [hl, ho i (fun q => hi q.symm)]
    · simp [hl]
def FF (own : String) (idx ci k : Nat) : Prop := ∃ (C : String) (T : u_T), vwCl[ci]? = some (C, T, nfC ci) ∧ k < nfC ci ∧ (∀ w ∈ u_ws C T (nfC ci), w ∈ mGood) ∧ (∀ k, k < nfC ci → parseFieldDescriptor (T k).2.2.1 = some (tyC ci k)) ∧ (∀ a, a < nfC ci → ∀ b, b < nfC ci → a ≠ b → (T a).2.1 ≠ (T b).2.1) ∧ (T k).2.2.2 = true ∧ (T k).1 = own ∧ Cond.fieldLink own idx (T k).1 (T k).2.1 (T k).2.2.1 ∈ mGood
theorem NoD_sR {sh : List Sh} {h : Hp} {a k x : Nat} (hx : x < sh.length) (hn : NoD sh h) : NoD sh (sR h a k (some x)) := by
  intro j i y hy
  by_cases hq : j = a ∧ i = k
  · simp [sR, u2, hq] at hy
    omega
  · simp [sR, u2, hq] at hy
    exact hn j i y hy
section EH
variable {M : MI} {scr : Option (Nat × (Nat → Int32))} {Q : QT} {pc : Nat} {lv : List (Option Value)} {st : List Value} {sh : List Sh} {h : Hp} {kc ks : Nat}
theorem E_get {a ci k idx : Nat} {fin : Bool} (v : Value) (hd : decode M.2.1 pc = .ok (.getfield idx, 3)) (f : FL M.1.cls idx ci k fin) (hs : sh[a]? = some (.inr ci)) (hv : gv h a (tyC ci k) k = v) (kk : E M scr Q (pc + 3) lv (v :: st) sh h kc ks) : E M scr Q pc lv (.ref a :: st) sh h kc ks := by
  intro p l e s m args below meth c D cyc A Z n0 b ad0 C adr locs H ls w hl
  subst hv
  obtain ⟨C', T, hc, hk, hin, hty, hnm, hfin, hcl, hlink⟩ := f
  have h9 := kk p l e s m args below meth c D cyc A Z n0 b ad0 C adr locs H ls w hl
  rw [List.map_cons, gv_rv] at h9
  rcases hlink with hlink | ⟨host, hlink⟩
  · exact va_get C.1 C.2.1 C.2.2.2.2.1 hin C.2.2.2.1 C.2.2.2.2.2.2.2.2.2.1 w.1 a (wsl_at hs) hc k hk (C.2.2.2.2.1 _ hlink) (fun _ q => q) (fs_at hk) hd h9
  · exact va_getN C.1 C.2.1 C.2.2.2.2.1 hin C.2.2.2.1 C.2.2.2.2.2.2.2.2.2.1 w.1 a (wsl_at hs) hc k hk (va_Nw.use (by rfl) (C.2.2.2.2.2.1 _ hlink)) (fun _ q => q) (fs_at hk) hd h9
theorem E_getI {a ci k idx : Nat} {fin : Bool} (hd : decode M.2.1 pc = .ok (.getfield idx, 3)) (f : FL M.1.cls idx ci k fin) (hs : sh[a]? = some (.inr ci)) (hv : gv h a (tyC ci k) k = .int (h.1 a k)) (kk : E M scr Q (pc + 3) lv (.int (h.1 a k) :: st) sh h kc ks) : E M scr Q pc lv (.ref a :: st) sh h kc ks := E_get _ hd f hs hv kk
theorem E_getL {a ci k idx : Nat} {fin : Bool} (hd : decode M.2.1 pc = .ok (.getfield idx, 3)) (f : FL M.1.cls idx ci k fin) (hs : sh[a]? = some (.inr ci)) (hv : gv h a (tyC ci k) k = .long (h.2.1 a k)) (kk : E M scr Q (pc + 3) lv (.long (h.2.1 a k) :: st) sh h kc ks) : E M scr Q pc lv (.ref a :: st) sh h kc ks := E_get _ hd f hs hv kk
theorem E_getR {a ci k idx x : Nat} {fin : Bool} (hd : decode M.2.1 pc = .ok (.getfield idx, 3)) (f : FL M.1.cls idx ci k fin) (hs : sh[a]? = some (.inr ci)) (hr : h.2.2 a k = some x) (hv : gv h a (tyC ci k) k = va_rf (h.2.2 a k)) (kk : E M scr Q (pc + 3) lv (.ref x :: st) sh h kc ks) : E M scr Q pc lv (.ref a :: st) sh h kc ks := E_get _ hd f hs (by rw [hv, hr]; rfl) kk
/-- a field is written: v the value, h2 the store behind it -/
theorem E_put {a ci k idx : Nat} {v : Value} {h2 : Hp} (hd : decode M.2.1 pc = .ok (.putfield idx, 3)) (f : FL M.1.cls idx ci k false) (hs : sh[a]? = some (.inr ci)) (hn : ∀ b adr, narrow (tyC ci k) (rv b adr v) = rv b adr v) (hfit : ∀ b adr, fits (tyC ci k) (rv b adr v) = true) (hv : ∀ b adr, fv adr h2 a (tyC ci k) k = rv b adr v) (ho : ∀ adr j, j ≠ k → fv adr h2 a (tyC ci j) j = fv adr h a (tyC ci j) j) (hc2 : ∀ cyc adr j t, j ≠ a → cel cyc adr h2 j t = cel cyc adr h j t) (hnd : NoD sh h → NoD sh h2) (kk : E M scr Q (pc + 3) lv st sh h2 kc ks) : E M scr Q pc lv (v :: .ref a :: st) sh h kc ks := by
  intro p l e s m args below meth c D cyc A Z n0 b ad0 C adr locs H ls w hl
  obtain ⟨C', T, hc, hk, hin, hty, hnm, hfin, hcl, hlink⟩ := f
  have hw : (wsl cyc adr h sh).set a (adr a, .inr (ci, ((List.range (nfC ci)).map (fun j => fv adr h a (tyC ci j) j)).set k (rv b adr v))) = wsl cyc adr h2 sh := wsl_set hs (by show Sum.inr (ci, _) = _; rw [fs_set (hv b adr) (ho adr)]) (hc2 cyc adr)
  have hlen : k < ((List.range (nfC ci)).map (fun j => fv adr h a (tyC ci j) j)).length := by simp [hk]
  rcases hlink with hlink | ⟨host, hlink⟩
  · refine va_put C.1 C.2.1 C.2.2.2.2.1 hin (tyC ci) hty hnm C.2.2.2.1 C.2.2.2.2.2.2.2.2.2.1 w.1 w.2.1 w.2.2.1 a (wsl_at hs) hc k hk (C.2.2.2.2.1 _ hlink) (fun _ q => q) hfin (hty k hk) (hn b adr) (hfit b adr) hlen hd (fun H1 locs1 g1 g2 g3 => ?_)
    rw [hw] at g1 g2
    exact kk p l e s m args below meth c D cyc A Z n0 b ad0 C adr locs1 H1 ls ⟨g1, g2, g3, w.2.2.2.1, w.2.2.2.2.1, w.2.2.2.2.2.1, hnd w.2.2.2.2.2.2⟩ hl
  · refine va_putN C.1 C.2.1 C.2.2.2.2.1 hin (tyC ci) hty hnm C.2.2.2.1 C.2.2.2.2.2.2.2.2.2.1 w.1 w.2.1 w.2.2.1 a (wsl_at hs) hc k hk (va_Nw.use (by rfl) (C.2.2.2.2.2.1 _ hlink)) (fun _ q => q) hfin (hty k hk) (hn b adr) (hfit b adr) hlen hd (fun H1 locs1 g1 g2 g3 => ?_)
    rw [hw] at g1 g2
    exact kk p l e s m args below meth c D cyc A Z n0 b ad0 C adr locs1 H1 ls ⟨g1, g2, g3, w.2.2.2.1, w.2.2.2.2.1, w.2.2.2.2.2.1, hnd w.2.2.2.2.2.2⟩ hl
theorem fv_oI {h : Hp} {a k : Nat} {x : Int32} (adr : Nat → Nat) (ci j : Nat) (hj : j ≠ k) : fv adr (sI h a k x) a (tyC ci j) j = fv adr h a (tyC ci j) j := by
  generalize tyC ci j = ty
  cases ty <;> simp [fv, sI, u2, hj]
theorem fv_oL {h : Hp} {a k : Nat} {x : Int64} (adr : Nat → Nat) (ci j : Nat) (hj : j ≠ k) : fv adr (sL h a k x) a (tyC ci j) j = fv adr h a (tyC ci j) j := by
  generalize tyC ci j = ty
  cases ty <;> simp [fv, sL, u2, hj]
theorem fv_oR {h : Hp} {a k : Nat} {x : Option Nat} (adr : Nat → Nat) (ci j : Nat) (hj : j ≠ k) : fv adr (sR h a k x) a (tyC ci j) j = fv adr h a (tyC ci j) j := by
  generalize tyC ci j = ty
  cases ty <;> simp [fv, sR, u2, hj]
theorem E_putI {a ci k idx : Nat} {x : Int32} (hd : decode M.2.1 pc = .ok (.putfield idx, 3)) (f : FL M.1.cls idx ci k false) (hs : sh[a]? = some (.inr ci)) (ht : tyC ci k = .int) (kk : E M scr Q (pc + 3) lv st sh (sI h a k x) kc ks) : E M scr Q pc lv (.int x :: .ref a :: st) sh h kc ks :=
  E_put hd f hs (fun _ _ => by rw [ht]; rfl) (fun _ _ => by rw [ht]; rfl) (fun _ _ => by rw [ht]; simp [fv, sI, u2, rv]) (fun adr j hj => fv_oI adr ci j hj) (fun cyc adr j t hj => cel_oI cyc adr h a k x j t hj) (fun q => q) kk
theorem E_putZ {a ci k idx : Nat} {x : Int32} (hd : decode M.2.1 pc = .ok (.putfield idx, 3)) (f : FL M.1.cls idx ci k false) (hs : sh[a]? = some (.inr ci)) (ht : tyC ci k = .boolean) (hx : x = 0 ∨ x = 1) (kk : E M scr Q (pc + 3) lv st sh (sI h a k x) kc ks) : E M scr Q pc lv (.int x :: .ref a :: st) sh h kc ks :=
  E_put hd f hs (fun _ _ => by rw [ht]; rcases hx with rfl | rfl <;> rfl) (fun _ _ => by rw [ht]; rcases hx with rfl | rfl <;> rfl) (fun _ _ => by rw [ht]; simp [fv, sI, u2, rv]) (fun adr j hj => fv_oI adr ci j hj) (fun cyc adr j t hj => cel_oI cyc adr h a k x j t hj) (fun q => q) kk
theorem E_putL {a ci k idx : Nat} {x : Int64} (hd : decode M.2.1 pc = .ok (.putfield idx, 3)) (f : FL M.1.cls idx ci k false) (hs : sh[a]? = some (.inr ci)) (ht : tyC ci k = .long) (kk : E M scr Q (pc + 3) lv st sh (sL h a k x) kc ks) : E M scr Q pc lv (.long x :: .ref a :: st) sh h kc ks :=
  E_put hd f hs (fun _ _ => by rw [ht]; rfl) (fun _ _ => by rw [ht]; rfl) (fun _ _ => by rw [ht]; simp [fv, sL, u2, rv]) (fun adr j hj => fv_oL adr ci j hj) (fun cyc adr j t hj => cel_oL cyc adr h a k x j t hj) (fun q => q) kk
theorem E_putR {a ci k idx x : Nat} {cn : String} (hd : decode M.2.1 pc = .ok (.putfield idx, 3)) (f : FL M.1.cls idx ci k false) (hs : sh[a]? = some (.inr ci)) (ht : tyC ci k = .object cn) (hx : x < sh.length) (kk : E M scr Q (pc + 3) lv st sh (sR h a k (some x)) kc ks) : E M scr Q pc lv (.ref x :: .ref a :: st) sh h kc ks :=
  E_put hd f hs (fun _ _ => by rw [ht]; rfl) (fun _ _ => by rw [ht]; rfl) (fun _ _ => by rw [ht]; simp [fv, sR, u2, rv, va_rf]) (fun adr j hj => fv_oR adr ci j hj) (fun cyc adr j t hj => cel_oR cyc adr h a k (some x) j t hj) (NoD_sR hx) kk
/-- a final field, in a constructor of its own -/
theorem E_putF {a ci k idx x : Nat} (hd : decode M.2.1 pc = .ok (.putfield idx, 3)) (f : FF M.1.cls idx ci k) (hs : sh[a]? = some (.inr ci)) (hi : M.1.name = "<init>") (hx : x < sh.length) (ht : (∃ cn, tyC ci k = .object cn) ∨ ∃ t, tyC ci k = .array t) (kk : E M scr Q (pc + 3) lv st sh (sR h a k (some x)) kc ks) : E M scr Q pc lv (.ref x :: .ref a :: st) sh h kc ks := by
  intro p l e s m args below meth c D cyc A Z n0 b ad0 C adr locs H ls w hl
  obtain ⟨C', T, hc, hk, hin, hty, hnm, hfin, hcl, hlink⟩ := f
  have hn : narrow (tyC ci k) (.ref (adr x)) = .ref (adr x) := by rcases ht with ⟨z, ht⟩ | ⟨z, ht⟩ <;> rw [ht] <;> rfl
  have hfit : fits (tyC ci k) (.ref (adr x)) = true := by rcases ht with ⟨z, ht⟩ | ⟨z, ht⟩ <;> rw [ht] <;> rfl
  have hv : fv adr (sR h a k (some x)) a (tyC ci k) k = rv b adr (.ref x) := by rcases ht with ⟨z, ht⟩ | ⟨z, ht⟩ <;> rw [ht] <;> simp [fv, sR, u2, va_rf, rv]
  have hw : (wsl cyc adr h sh).set a (adr a, .inr (ci, ((List.range (nfC ci)).map (fun j => fv adr h a (tyC ci j) j)).set k (rv b adr (.ref x)))) = wsl cyc adr (sR h a k (some x)) sh := wsl_set hs (by show Sum.inr (ci, _) = _; rw [fs_set hv (fun j hj => fv_oR adr ci j hj)]) (fun j t hj => cel_oR cyc adr h a k (some x) j t hj)
  have hlen : k < ((List.range (nfC ci)).map (fun j => fv adr h a (tyC ci j) j)).length := by simp [hk]
  refine va_putF C.1 C.2.1 C.2.2.2.2.1 hin (tyC ci) hty hnm C.2.2.2.1 C.2.2.2.2.2.2.2.2.2.1 w.1 w.2.1 w.2.2.1 a (wsl_at hs) hc k hk (C.2.2.2.2.1 _ hlink) (fun _ q => q) hfin (C.2.2.2.2.2.2.2.1.trans hi) hcl (hty k hk) hn hfit hlen hd (fun H1 locs1 g1 g2 g3 => ?_)
  rw [hw] at g1 g2
  exact kk p l e s m args below meth c D cyc A Z n0 b ad0 C adr locs1 H1 ls ⟨g1, g2, g3, w.2.2.2.1, w.2.2.2.2.1, w.2.2.2.2.2.1, NoD_sR hx w.2.2.2.2.2.2⟩ hl
/-! arrays -/
theorem E_iald {a n : Nat} {i : Int32} (hd : decode M.2.1 pc = .ok (.iaload, 1)) (hs : sh[a]? = some (.inl (.int, n))) (hin : vp_in i n) (kk : E M scr Q (pc + 1) lv (.int (h.1 a i.toNatClampNeg) :: st) sh h kc ks) : E M scr Q pc lv (.int i :: .ref a :: st) sh h kc ks := by
  intro p l e s m args below meth c D cyc A Z n0 b ad0 C adr locs H ls w hl
  exact va_iald C.1 C.2.1 C.2.2.2.2.2.2.2.2.2.1 w.1 a 1 (wsl_at hs) rfl hin hd (kk p l e s m args below meth c D cyc A Z n0 b ad0 C adr locs H ls w hl)
theorem E_bald {a n : Nat} {i : Int32} (hd : decode M.2.1 pc = .ok (.baload, 1)) (hs : sh[a]? = some (.inl (.byte, n))) (hin : vp_in i n) (kk : E M scr Q (pc + 1) lv (.int (h.1 a i.toNatClampNeg) :: st) sh h kc ks) : E M scr Q pc lv (.int i :: .ref a :: st) sh h kc ks := by
  intro p l e s m args below meth c D cyc A Z n0 b ad0 C adr locs H ls w hl
  exact va_bald C.1 C.2.1 C.2.2.2.2.2.2.2.2.2.1 w.1 a 0 (wsl_at hs) rfl hin hd (kk p l e s m args below meth c D cyc A Z n0 b ad0 C adr locs H ls w hl)
theorem E_zald {a n : Nat} {i : Int32} (hd : decode M.2.1 pc = .ok (.baload, 1)) (hs : sh[a]? = some (.inl (.boolean, n))) (hin : vp_in i n) (kk : E M scr Q (pc + 1) lv (.int (h.1 a i.toNatClampNeg) :: st) sh h kc ks) : E M scr Q pc lv (.int i :: .ref a :: st) sh h kc ks := by
  intro p l e s m args below meth c D cyc A Z n0 b ad0 C adr locs H ls w hl
  exact va_zald C.1 C.2.1 C.2.2.2.2.2.2.2.2.2.1 w.1 a 3 (wsl_at hs) rfl hin hd (kk p l e s m args below meth c D cyc A Z n0 b ad0 C adr locs H ls w hl)
theorem E_lald {a n : Nat} {i : Int32} (hd : decode M.2.1 pc = .ok (.laload, 1)) (hs : sh[a]? = some (.inl (.long, n))) (hin : vp_in i n) (kk : E M scr Q (pc + 1) lv (.long (h.2.1 a i.toNatClampNeg) :: st) sh h kc ks) : E M scr Q pc lv (.int i :: .ref a :: st) sh h kc ks := by
  intro p l e s m args below meth c D cyc A Z n0 b ad0 C adr locs H ls w hl
  exact va_lald C.1 C.2.1 C.2.2.2.2.2.2.2.2.2.1 w.1 a 2 (wsl_at hs) rfl hin hd (kk p l e s m args below meth c D cyc A Z n0 b ad0 C adr locs H ls w hl)
theorem E_iast {a n : Nat} {i : Int32} {x : Int32} (hd : decode M.2.1 pc = .ok (.iastore, 1)) (hs : sh[a]? = some (.inl (.int, n))) (hin : vp_in i n) (kk : E M scr Q (pc + 1) lv st sh (sI h a i.toNatClampNeg x) kc ks) : E M scr Q pc lv (.int x :: .int i :: .ref a :: st) sh h kc ks := by
  intro p l e s m args below meth c D cyc A Z n0 b ad0 C adr locs H ls w hl
  have he : cel cyc adr (sI h a i.toNatClampNeg x) a (.inl (.int, n)) = .inl (cyc .int, n, .inl (upd (h.1 a) i.toNatClampNeg x)) := by
    have e1 : (sI h a i.toNatClampNeg x).1 a = upd (h.1 a) i.toNatClampNeg x := by funext j; simp [sI, u2, upd]
    show Sum.inl (cyc .int, n, Sum.inl _) = _
    rw [e1]
  have hw := wsl_set (h := h) hs he (fun j t hj => cel_oI cyc adr h a i.toNatClampNeg x j t hj)
  refine va_iast C.1 C.2.1 C.2.2.2.2.2.2.2.2.2.1 w.1 w.2.1 w.2.2.1 a 1 (wsl_at hs) rfl hin hd (fun H1 locs1 g1 g2 g3 => ?_)
  rw [hw] at g1 g2
  exact kk p l e s m args below meth c D cyc A Z n0 b ad0 C adr locs1 H1 ls ⟨g1, g2, g3, w.2.2.2⟩ hl
theorem E_bast {a n : Nat} {i : Int32} {x : Int32} (hd : decode M.2.1 pc = .ok (.bastore, 1)) (hs : sh[a]? = some (.inl (.byte, n))) (hin : vp_in i n) (kk : E M scr Q (pc + 1) lv st sh (sI h a i.toNatClampNeg (vp_nar .byte x)) kc ks) : E M scr Q pc lv (.int x :: .int i :: .ref a :: st) sh h kc ks := by
  intro p l e s m args below meth c D cyc A Z n0 b ad0 C adr locs H ls w hl
  have he : cel cyc adr (sI h a i.toNatClampNeg (vp_nar .byte x)) a (.inl (.byte, n)) = .inl (cyc .byte, n, .inl (upd (h.1 a) i.toNatClampNeg (vp_nar .byte x))) := by
    have e1 : (sI h a i.toNatClampNeg (vp_nar .byte x)).1 a = upd (h.1 a) i.toNatClampNeg (vp_nar .byte x) := by funext j; simp [sI, u2, upd]
    show Sum.inl (cyc .byte, n, Sum.inl _) = _
    rw [e1]
  have hw := wsl_set (h := h) hs he (fun j t hj => cel_oI cyc adr h a i.toNatClampNeg (vp_nar .byte x) j t hj)
  refine va_bast C.1 C.2.1 C.2.2.2.2.2.2.2.2.2.1 w.1 w.2.1 w.2.2.1 a 0 (wsl_at hs) rfl hin hd (fun H1 locs1 g1 g2 g3 => ?_)
  rw [hw] at g1 g2
  exact kk p l e s m args below meth c D cyc A Z n0 b ad0 C adr locs1 H1 ls ⟨g1, g2, g3, w.2.2.2⟩ hl
theorem E_zast {a n : Nat} {i : Int32} {x : Int32} (hd : decode M.2.1 pc = .ok (.bastore, 1)) (hs : sh[a]? = some (.inl (.boolean, n))) (hin : vp_in i n) (kk : E M scr Q (pc + 1) lv st sh (sI h a i.toNatClampNeg (vp_nar .boolean x)) kc ks) : E M scr Q pc lv (.int x :: .int i :: .ref a :: st) sh h kc ks := by
  intro p l e s m args below meth c D cyc A Z n0 b ad0 C adr locs H ls w hl
  have he : cel cyc adr (sI h a i.toNatClampNeg (vp_nar .boolean x)) a (.inl (.boolean, n)) = .inl (cyc .boolean, n, .inl (upd (h.1 a) i.toNatClampNeg (vp_nar .boolean x))) := by
    have e1 : (sI h a i.toNatClampNeg (vp_nar .boolean x)).1 a = upd (h.1 a) i.toNatClampNeg (vp_nar .boolean x) := by funext j; simp [sI, u2, upd]
    show Sum.inl (cyc .boolean, n, Sum.inl _) = _
    rw [e1]
  have hw := wsl_set (h := h) hs he (fun j t hj => cel_oI cyc adr h a i.toNatClampNeg (vp_nar .boolean x) j t hj)
  refine va_zast C.1 C.2.1 C.2.2.2.2.2.2.2.2.2.1 w.1 w.2.1 w.2.2.1 a 3 (wsl_at hs) rfl hin hd (fun H1 locs1 g1 g2 g3 => ?_)
  rw [hw] at g1 g2
  exact kk p l e s m args below meth c D cyc A Z n0 b ad0 C adr locs1 H1 ls ⟨g1, g2, g3, w.2.2.2⟩ hl
theorem E_last {a n : Nat} {i : Int32} {x : Int64} (hd : decode M.2.1 pc = .ok (.lastore, 1)) (hs : sh[a]? = some (.inl (.long, n))) (hin : vp_in i n) (kk : E M scr Q (pc + 1) lv st sh (sL h a i.toNatClampNeg x) kc ks) : E M scr Q pc lv (.long x :: .int i :: .ref a :: st) sh h kc ks := by
  intro p l e s m args below meth c D cyc A Z n0 b ad0 C adr locs H ls w hl
  have he : cel cyc adr (sL h a i.toNatClampNeg x) a (.inl (.long, n)) = .inl (cyc .long, n, .inr (.inl (vp_updL (h.2.1 a) i.toNatClampNeg x))) := by
    have e1 : (sL h a i.toNatClampNeg x).2.1 a = vp_updL (h.2.1 a) i.toNatClampNeg x := by funext j; simp [sL, u2, vp_updL]
    show Sum.inl (cyc .long, n, Sum.inr (Sum.inl _)) = _
    rw [e1]
  have hw := wsl_set (h := h) hs he (fun j t hj => cel_oL cyc adr h a i.toNatClampNeg x j t hj)
  refine va_last C.1 C.2.1 C.2.2.2.2.2.2.2.2.2.1 w.1 w.2.1 w.2.2.1 a 2 (wsl_at hs) rfl hin hd (fun H1 locs1 g1 g2 g3 => ?_)
  rw [hw] at g1 g2
  exact kk p l e s m args below meth c D cyc A Z n0 b ad0 C adr locs1 H1 ls ⟨g1, g2, g3, w.2.2.2⟩ hl
theorem E_aald {a n x : Nat} {i : Int32} (hd : decode M.2.1 pc = .ok (.aaload, 1)) (hs : sh[a]? = some (.inl (.object RX3, n))) (hin : vp_in i n) (hr : h.2.2 a i.toNatClampNeg = some x) (kk : E M scr Q (pc + 1) lv (.ref x :: st) sh h kc ks) : E M scr Q pc lv (.int i :: .ref a :: st) sh h kc ks := by
  intro p l e s m args below meth c D cyc A Z n0 b ad0 C adr locs H ls w hl
  refine va_aldq C.1 C.2.1 C.2.2.2.2.2.2.2.2.2.1 w.1 a 4 (wsl_at hs) rfl hin hd ?_
  have h9 := kk p l e s m args below meth c D cyc A Z n0 b ad0 C adr locs H ls w hl
  rw [show va_rf ((h.2.2 a i.toNatClampNeg).map adr) = rv b adr (.ref x) by rw [hr]; rfl]
  exact h9
theorem E_alen {a n : Nat} {ty : FieldType} (hd : decode M.2.1 pc = .ok (.arraylength, 1)) (hs : sh[a]? = some (.inl (ty, n))) (ht : ty = .int ∨ ty = .byte ∨ ty = .boolean ∨ ty = .long) (kk : E M scr Q (pc + 1) lv (.int (nI n) :: st) sh h kc ks) : E M scr Q pc lv (.ref a :: st) sh h kc ks := by
  intro p l e s m args below meth c D cyc A Z n0 b ad0 C adr locs H ls w hl
  have h9 := kk p l e s m args below meth c D cyc A Z n0 b ad0 C adr locs H ls w hl
  rcases ht with rfl | rfl | rfl | rfl
  · exact va_alen C.1 C.2.1 C.2.2.2.2.2.2.2.2.2.1 w.1 a 1 (wsl_at hs) rfl rfl hd h9
  · exact va_alen C.1 C.2.1 C.2.2.2.2.2.2.2.2.2.1 w.1 a 0 (wsl_at hs) rfl rfl hd h9
  · exact va_alen C.1 C.2.1 C.2.2.2.2.2.2.2.2.2.1 w.1 a 3 (wsl_at hs) rfl rfl hd h9
  · exact va_alen C.1 C.2.1 C.2.2.2.2.2.2.2.2.2.1 w.1 a 2 (wsl_at hs) rfl rfl hd h9
theorem E_sald {L : Nat} {xs : Nat → Int32} {i : Int32} (hscr : scr = some (L, xs)) (hd : decode M.2.1 pc = .ok (.iaload, 1)) (hin : vp_in i L) (kk : E M scr Q (pc + 1) lv (.int (xs i.toNatClampNeg) :: st) sh h kc ks) : E M scr Q pc lv (.int i :: .retAddr 0 :: st) sh h kc ks := by
  intro p l e s m args below meth c D cyc A Z n0 b ad0 C adr locs H ls w hl
  obtain ⟨q1, q2, q3⟩ := C.2.2.2.2.2.2.2.2.2.2.1 L xs hscr
  exact va_sld C.1 C.2.1 q1 q2 q3 w.2.2.1 hin hd (kk p l e s m args below meth c D cyc A Z n0 b ad0 C adr locs H ls w hl)
theorem E_slen {L : Nat} {xs : Nat → Int32} (hscr : scr = some (L, xs)) (hd : decode M.2.1 pc = .ok (.arraylength, 1)) (kk : E M scr Q (pc + 1) lv (.int (nI L) :: st) sh h kc ks) : E M scr Q pc lv (.retAddr 0 :: st) sh h kc ks := by
  intro p l e s m args below meth c D cyc A Z n0 b ad0 C adr locs H ls w hl
  obtain ⟨q1, q2, q3⟩ := C.2.2.2.2.2.2.2.2.2.2.1 L xs hscr
  exact va_slen C.1 C.2.1 q1 q2 q3 w.2.2.1 hd (kk p l e s m args below meth c D cyc A Z n0 b ad0 C adr locs H ls w hl)
end EH
end
section
/-! contracts over the mini world, and calls -/
def SPc (av : List Value) (D : va_G) (cyc : FieldType → ClassId) (b : Nat) (adr : Nat → Nat) (sh : List Sh) (h : Hp) (sz : Nat) : Array Value → State → Prop := fun v U =>
  v = (av.map (rv b adr)).toArray ∧ U.heap.size = sz ∧ va_P D vwCl (wsl cyc adr h sh) U.heap ∧ va_K D vwCl (tysL cyc) U ∧ va_D (fun _ => True) (wsl cyc adr h sh) ∧ NoD sh h ∧ (∀ w ∈ mNest, va_Nw w U) ∧ va_AO RX3 U
def SQc (Q : QT) (D : va_G) (cyc : FieldType → ClassId) (b : Nat) (adr : Nat → Nat) (sh : List Sh) (h : Hp) (sz : Nat) : Array Value → State → Outcome → State → Prop := fun _ st o t =>
  ∃ (v : Option Value) (sh' : List Sh) (h' : Hp) (adr' : Nat → Nat), o = .returned (v.map (rv b adr')) ∧ Q v sh' h' ∧ va_P D vwCl (wsl cyc adr' h' sh') t.heap ∧ va_D (va_A (wsl cyc adr h sh) sz) (wsl cyc adr' h' sh') ∧ (∀ k, k < sh.length → adr' k = adr k) ∧ (sh'.length = sh.length → adr' = adr) ∧ sh.length ≤ sh'.length ∧ NoD sh' h' ∧ va_F (va_A (wsl cyc adr h sh) sz) st t
/-- method M, called with av over (sh, h): it returns, and Q holds -/
def Sp (M : MI) (av : List Value) (sh : List Sh) (h : Hp) (Q : QT) : Prop := ∀ (l : Launch) (D : va_G) (cyc : FieldType → ClassId) (b : Nat) (adr : Nat → Nat) (sz : Nat),
  Met l M.1 (Cond.code M.1 M.2.1 M.2.2.1 M.2.2.2.1 :: mGood) M.2.2.2.2 (SPc av D cyc b adr sh h sz) (SQc Q D cyc b adr sh h sz) M.2.2.2.2.cells M.2.2.2.2.slots (va_A (wsl cyc adr h sh) sz)
/-- the same of a method that makes no cell -/
def Sp0 (M : MI) (av : List Value) (sh : List Sh) (h : Hp) (Q : Option Value → Hp → Prop) : Prop := Sp M av sh h (fun v sh' h' => sh' = sh ∧ Q v h')
def lvE : Nat → List Value → List (Option Value)
  | n, [] => List.replicate n none
  | n, v :: vs => if v.category = 2 then some v :: none :: lvE (n - 2) vs else some v :: lvE (n - 1) vs
theorem lvE_mem (b : Nat) (adr : Nat → Nat) : ∀ (vs : List Value) (n o i : Nat) (v : Value), (lvE n vs)[i]? = some (some v) → (o + i, rv b adr v) ∈ lv_args o (vs.map (rv b adr))
  | [], n, o, i, v, h => by
    simp [lvE, List.getElem?_replicate] at h
  | u :: vs, n, o, i, v, h => by
    rw [lvE] at h
    simp only [List.map_cons, lv_args, rv_cat]
    by_cases hc : u.category = 2
    · rw [if_pos hc] at h ⊢
      match i, h with
      | 0, h => simp at h; subst h; exact List.mem_cons_self
      | 1, h => simp at h
      | i + 2, h =>
        have := lvE_mem b adr vs (n - 2) (o + 2) i v (by simpa using h)
        rw [show o + (i + 2) = o + 2 + i by omega]
        exact List.mem_cons_of_mem _ this
    · rw [if_neg hc] at h ⊢
      match i, h with
      | 0, h => simp at h; subst h; exact List.mem_cons_self
      | i + 1, h =>
        have := lvE_mem b adr vs (n - 1) (o + 1) i v (by simpa using h)
        rw [show o + (i + 1) = o + 1 + i by omega]
        exact List.mem_cons_of_mem _ this
theorem lg_rv (b : Nat) (adr : Nat → Nat) (vs : List Value) : (lg_sl (vs.map (rv b adr))).length = (lg_sl vs).length := by
  induction vs with
  | nil => rfl
  | cons v vs ih =>
    simp only [lg_sl, List.map_cons, List.flatMap_cons, List.length_append, rv_cat] at ih ⊢
    rw [ih]
    by_cases hc : v.category = 2 <;> simp [hc]
theorem Sp.of {M : MI} {av : List Value} {sh : List Sh} {h : Hp} {Q : QT} (hy : plainName M.1.cls = true) (hn : (lg_sl av).length ≤ M.2.2.1) (k : E M none Q 0 (lvE M.2.2.1 av) [] sh h 0 0) : Sp M av sh h Q := by
  intro l D cyc b adr sz
  refine Met.ofW (cc := M.2.1) (maxL := M.2.2.1) (ret := M.2.2.2.1) hy rfl ?_
  intro p e s m args below meth c s₁ B hml hv
  obtain ⟨rfl, hsz, hP, hK, hD0, hnd, hN, hO⟩ := hv
  subst hsz
  have hts := atoms_spec (ws := Cond.code M.1 M.2.1 M.2.2.1 M.2.2.2.1 :: mGood) B.pre
  have hlocks := B.notSynchronized
  have hl := lv_entry (av.map (rv b adr)) (n := M.2.2.1) (by rw [lg_rv]; exact hn)
  rw [lg_entry_eq]
  generalize (lg_sl (av.map (rv b adr)) ++ List.replicate (M.2.2.1 - (lg_sl (av.map (rv b adr))).length) Slot.unset).toArray = ls at hl ⊢
  refine k p l e s m _ below meth c D cyc (va_A (wsl cyc adr h sh) s.heap.size) _ sh.length b adr ?_ adr [] s.heap ls ⟨hP, hD0.self, va_S.rf, fun _ _ => rfl, fun _ => rfl, Nat.le_refl _, hnd⟩ ⟨hl.1, hl.2.1, fun i v hi => hl.2.2 (i, rv b adr v) (by simpa using lvE_mem b adr av M.2.2.1 0 i v hi)⟩
  refine ⟨B.exec, B.bytes, hml, findClass_of_methodNamed B.named, fun w hw => hts w (List.mem_cons_of_mem _ hw), hN, hO, (name_of_methodNamed B.named B.method).1, fun q hq => Or.inr hq, hK, fun L xs hh => (by cases hh), ?_⟩
  intro v i sh' h' adr' H locs pc ls2 hq w hr hd
  obtain ⟨w1, w2, w3, w4, w5, w6, w7⟩ := w
  have key : ∀ t : State, t.heap = H → s.WarmedH t.vm → SQc Q D cyc b adr sh h s.heap.size (av.map (rv b adr)).toArray s (.returned (v.map (rv b adr'))) t := fun t ht hW =>
    ⟨v, sh', h', adr', rfl, hq, by rw [ht]; exact w1, w2, w4, w5, w6, w7, w3.F ht⟩
  match v, hr, key with
  | none, hr, key => exact W.vret B.exec B.bytes (B.returns.trans hr.2) key w3.2.2 (by rw [hd, hr.1])
  | some (.int x), hr, key =>
    obtain ⟨r1, ty, r2, r3⟩ := hr
    exact W.zret (ty := ty) B.exec B.bytes (B.returns.trans r2) r3 key w3.2.2 (by rw [hd, r1])
  | some (.long x), hr, key => exact W.lret B.exec B.bytes (B.returns.trans hr.2) key w3.2.2 (by rw [hd, hr.1])
  | some .null, hr, key =>
    obtain ⟨r1, n, r2⟩ := hr
    exact W.aret (rt := .object n) B.exec B.bytes (B.returns.trans r2) (Or.inl ⟨n, rfl⟩) (Or.inl rfl) key w3.2.2 (by rw [hd, r1])
  | some (.ref x), hr, key =>
    obtain ⟨r1, n, r2⟩ := hr
    exact W.aret (rt := .object n) B.exec B.bytes (B.returns.trans r2) (Or.inl ⟨n, rfl⟩) (Or.inr ⟨adr' x, rfl⟩) key w3.2.2 (by rw [hd, r1])
theorem Sp0.of {M : MI} {av : List Value} {sh : List Sh} {h : Hp} {Q : Option Value → Hp → Prop} (hy : plainName M.1.cls = true) (hn : (lg_sl av).length ≤ M.2.2.1) (k : E M none (fun v sh' h' => sh' = sh ∧ Q v h') 0 (lvE M.2.2.1 av) [] sh h 0 0) : Sp0 M av sh h Q := Sp.of hy hn k
theorem SPc_blind {av : List Value} {D : va_G} {cyc : FieldType → ClassId} {b : Nat} {adr : Nat → Nat} {sh : List Sh} {h : Hp} {sz : Nat} : FrameBlind (SPc av D cyc b adr sh h sz) := by
  intro a U g mk q
  obtain ⟨q0, q1, qP, qK, qD, qN, qW, qO⟩ := q
  exact ⟨q0, q1, qP, va_K.moved (u := U) (U := U.calling g mk a) (Vm.Alike.refl U.vm) qK, qD, qN, mNest_same (by rfl) qW, va_AO.moved (u := U) (U := U.calling g mk a) (Vm.Alike.refl U.vm) qO⟩
theorem SPc_pre {M : MI} {scr : Option (Nat × (Nat → Int32))} {Q : QT} {p : Program} {l : Launch} {e : Env} {s : State} {m : MethodId} {args : Array Value} {below : List Frame} {meth : Method} {c : Code} {D : va_G} {cyc : FieldType → ClassId} {A : Nat → Prop} {Z : State → Prop} {n0 b : Nat} {ad0 adr : Nat → Nat} {sh : List Sh} {h : Hp} {H : Heap} {locs : List Loc} {av : List Value} (C : Cx M scr Q p l e s m args below meth c D cyc A Z n0 b ad0) (w : Wd s D cyc A n0 ad0 adr sh h H locs) : ∀ U : State, U.heap = H → s.WarmedH U.vm → SPc av D cyc b adr sh h H.size (av.map (rv b adr)).toArray U := fun U hU hW =>
  ⟨rfl, by rw [hU], by rw [hU]; exact w.1, va_K.moved hW.alike C.2.2.2.2.2.2.2.2.2.1, w.2.1.weaken (fun _ _ _ _ => trivial), w.2.2.2.2.2.2, mNest_warm hW C.2.2.2.2.2.1, va_AO.moved hW.alike C.2.2.2.2.2.2.1⟩
/-- behind a call -/
theorem E_back {M : MI} {scr : Option (Nat × (Nat → Int32))} {Q Qc : QT} {p : Program} {l : Launch} {e : Env} {s : State} {m : MethodId} {args : Array Value} {below : List Frame} {meth : Method} {c : Code} {D : va_G} {cyc : FieldType → ClassId} {A : Nat → Prop} {Z : State → Prop} {n0 b : Nat} {ad0 adr : Nat → Nat} {sh : List Sh} {h : Hp} {H : Heap} {locs : List Loc} {ls : Array Slot} {pc kc ks mc ms : Nat} {st0 rest : List Value} {a : Array Value} (C : Cx M scr Q p l e s m args below meth c D cyc A Z n0 b ad0) (w : Wd s D cyc A n0 ad0 adr sh h H locs)
    (hr : va_Run p l e M.2.2.2.2 s m args below meth c H locs kc ks mc ms (F0 m pc ls st0) rest (SQc Qc D cyc b adr sh h H.size a) (va_A (wsl cyc adr h sh) H.size))
    (kk : ∀ (v : Option Value) (sh' : List Sh) (h' : Hp) (adr' : Nat → Nat) (H1 : Heap) (locs1 : List Loc), Qc v sh' h' → Wd s D cyc A n0 ad0 adr' sh' h' H1 locs1 → (∀ k, k < sh.length → adr' k = adr k) → (sh'.length = sh.length → adr' = adr) → W p l e M.2.2.2.2 s m args below meth c H1 locs1 (kc + mc) (ks + ms) Z (F0 m (pc + 3) ls (v.toList.map (rv b adr') ++ rest))) : W p l e M.2.2.2.2 s m args below meth c H locs kc ks Z (F0 m pc ls st0) := by
  intro T hT X
  obtain ⟨v0, st₀, t, T', L, h0, X', hL, e1, e2, ⟨v, sh', h', adr', hv, hq, hP, hD, ha, hb, hc, hd, hz, hk⟩, st⟩ := hr T hT X
  cases hv
  rw [h0] at hz hk
  have hF : ∀ q, va_A (wsl cyc adr h sh) H.size q → A q := by
    intro q hq
    rcases hq with ⟨k, e, hq⟩ | hq
    · exact w.2.1.2 k (q, e) hq
    · exact C.2.2.2.2.2.2.2.2.1 q (Nat.le_trans w.2.2.1.1 hq)
  have hS := w.2.2.1
  have hw : Wd s D cyc A n0 ad0 adr' sh' h' T'.heap (locs ++ L) := by
    refine ⟨by rw [e1]; exact hP, hD.weaken (fun _ q _ hq => hF q.1 hq), ⟨Nat.le_trans hS.1 (by rw [e1]; exact hz), fun q h1 h2 => by rw [e1, hk q (Nat.lt_of_lt_of_le h1 hS.1) (fun z => h2 (hF q z))]; exact hS.2.1 q h1 h2, fun q hq => by
      rcases List.mem_append.mp hq with h | h
      · exact hS.2.2 q h
      · exact hF _ (hL q h)⟩, fun k hk => ?_, fun hk => ?_, Nat.le_trans w.2.2.2.2.2.1 hc, hd⟩
    · rw [ha k (Nat.lt_of_lt_of_le hk w.2.2.2.2.2.1)]; exact w.2.2.2.1 k hk
    · have e3 : sh.length = n0 := Nat.le_antisymm (by rw [← hk]; exact hc) w.2.2.2.2.2.1
      rw [hb (by omega)]; exact w.2.2.2.2.1 e3
  obtain ⟨t2, a1, b1⟩ := kk v sh' h' adr' T'.heap (locs ++ L) hq hw ha hb T' rfl X'
  refine ⟨t2, st t2 ?_, b1⟩
  have e4 : (v.map (rv b adr')).toList = v.toList.map (rv b adr') := by cases v <;> rfl
  show Steps p.tables e below (T'.setTop { F0 m pc ls st0 with pc := pc + 3, stack := (v.map (rv b adr')).toList ++ rest }) t2
  rw [e4]
  exact a1
section EC
variable {M : MI} {scr : Option (Nat × (Nat → Int32))} {Q : QT} {pc : Nat} {lv : List (Option Value)} {st : List Value} {sh : List Sh} {h : Hp} {kc ks : Nat}
variable {N : MI} {av : List Value} {idx nP : Nat}
/-- what a call needs of the tables: its code, its class, how many parameters -/
def CN (N : MI) (nP : Nat) : Prop := Cond.code N.1 N.2.1 N.2.2.1 N.2.2.2.1 ∈ mGood ∧ Cond.initialized N.1.cls ∈ mGood ∧ (N.1.cls ≠ "java/lang/invoke/MethodHandle" ∧ N.1.cls ≠ "java/lang/invoke/VarHandle" ∧ (parseMethodDescriptor N.1.desc).map (fun d => d.parameters.length) = some nP)
/-- the caller's room holds the callee's -/
def RM (M N : MI) : Prop := N.2.2.2.2.frames + 1 ≤ M.2.2.2.2.frames ∧ 8 + (N.2.2.1 + 11) + N.2.2.2.2.locals ≤ M.2.2.2.2.locals
/-- and of the link: the kind of call, the index -/
def LV (own : String) (N : MI) (idx : Nat) : Prop := Cond.instanceMethod N.1 ∈ mGood ∧ Cond.selects N.1.cls N.1 N.1 ∈ mGood ∧ (Cond.methodLink own idx N.1 ∈ mGood ∨ ∃ host, Cond.methodLinkNest own idx N.1 host ∈ mNest)
def LS2 (own : String) (N : MI) (idx : Nat) : Prop := Cond.static N.1 ∈ mGood ∧ (Cond.methodLink own idx N.1 ∈ mGood ∨ ∃ host, Cond.methodLinkNest own idx N.1 host ∈ mNest)
def LI (own : String) (N : MI) (idx : Nat) : Prop := N.1.name = "<init>" ∧ N.2.2.2.1 = none ∧ Cond.instanceMethod N.1 ∈ mGood ∧ (Cond.methodLink own idx N.1 ∈ mGood ∨ ∃ host, Cond.methodLinkNest own idx N.1 host ∈ mNest)
theorem catsum (b : Nat) (adr : Nat → Nat) (st : List Value) : ((st.map (rv b adr)).map fun v => v.category).sum = (st.map fun v => v.category).sum := by
  congr 1
  rw [List.map_map]
  exact List.map_congr_left (fun v _ => rv_cat b adr v)
theorem mapapp (b : Nat) (adr : Nat → Nat) (v : Option Value) (st : List Value) : v.toList.map (rv b adr) ++ st.map (rv b adr) = (v.toList ++ st).map (rv b adr) := by simp
theorem revmap (b : Nat) (adr : Nat → Nat) (av st : List Value) : (av.reverse ++ st).map (rv b adr) = (av.map (rv b adr)).reverse ++ st.map (rv b adr) := by simp
theorem fieldsOK {cyc : FieldType → ClassId} {adr : Nat → Nat} {h : Hp} {sh : List Sh} {a ci : Nat} (hs : sh[a]? = some (.inr ci)) : (wsl cyc adr h sh)[a]? = some (adr a, .inr (ci, (List.range (nfC ci)).map (fun j => fv adr h a (tyC ci j) j))) := wsl_at hs
/-- invokevirtual of N on object a of class ci, no cell made -/
theorem E_callV {Qn : Option Value → Hp → Prop} {a ci : Nat} (hd : decode M.2.1 pc = .ok (.invokevirtual idx, 3)) (cn : CN N nP) (lk : LV M.1.cls N idx) (rm : RM M N) (hs : sh[a]? = some (.inr ci)) (hci : vwCl[ci]?.map (fun q => q.1) = some N.1.cls) (hn : av.length = nP) (hst : (st.map fun v => v.category).sum ≤ 8) (hz : N.2.2.2.2.cells = 0 ∧ N.2.2.2.2.slots = 0) (hc : kc ≤ M.2.2.2.2.cells ∧ ks ≤ M.2.2.2.2.slots) (hM : Sp0 N (.ref a :: av) sh h Qn) (kk : ∀ v h', Qn v h' → E M scr Q (pc + 3) lv (v.toList ++ st) sh h' kc ks) : E M scr Q pc lv (av.reverse ++ .ref a :: st) sh h kc ks := by
  intro p l e s m args below meth c D cyc A Z n0 b ad0 C adr locs H ls w hl
  obtain ⟨q, hq⟩ : ∃ q, vwCl[ci]? = some q := by
    cases hh : vwCl[ci]? with
    | none => rw [hh] at hci; cases hci
    | some q => exact ⟨q, rfl⟩
  have hq1 : q.1 = N.1.cls := by rw [hq] at hci; exact Option.some.inj hci
  have hrecv := va_recv C.2.2.2.2.2.2.2.2.2.1 w.1 hq (fieldsOK hs)
  rw [hq1] at hrecv
  have hpre : PreV s H N.1.cls (adr a) (SPc (.ref a :: av) D cyc b adr sh h H.size) (av.map (rv b adr)) := ⟨SPc_blind, hrecv, SPc_pre C w⟩
  have hst' : 2 * (F0 m pc ls ((av.reverse ++ .ref a :: st).map (rv b adr))).monitorRoom + ((st.map (rv b adr)).map fun v => v.category).sum ≤ 8 := by
    show 2 * 0 + _ ≤ 8
    rw [catsum]; omega
  have hcs : kc + N.2.2.2.2.cells ≤ M.2.2.2.2.cells ∧ ks + N.2.2.2.2.slots ≤ M.2.2.2.2.slots := by rw [hz.1, hz.2]; exact hc
  have hrun : va_Run p l e M.2.2.2.2 s m args below meth c H locs kc ks N.2.2.2.2.cells N.2.2.2.2.slots (F0 m pc ls ((av.reverse ++ .ref a :: st).map (rv b adr))) (st.map (rv b adr)) (SQc (fun v sh' h' => sh' = sh ∧ Qn v h') D cyc b adr sh h H.size (Value.ref (adr a) :: av.map (rv b adr)).toArray) (va_A (wsl cyc adr h sh) H.size) := by
    rcases lk.2.2 with hl1 | ⟨host, hl1⟩
    · exact va_runV (n := nP) ⟨C.1, C.2.1, C.2.2.1, C.2.2.2.1, C.2.2.2.2.1⟩ (hM l D cyc b adr H.size) ⟨callB_of nP C.2.2.2.2.1 (goodIn_M cn.1) rfl rfl rfl (C.2.2.2.2.1 _ cn.2.1) (C.2.2.2.2.1 _ hl1) cn.2.2 rm, C.2.2.2.2.1 _ lk.1, C.2.2.2.2.1 _ lk.2.1⟩ hpre rfl (by rw [List.length_map]; exact hn) hl.1 (revmap b adr av (.ref a :: st)) hst' hd hcs
    · exact va_runVN (n := nP) ⟨C.1, C.2.1, C.2.2.1, C.2.2.2.1, C.2.2.2.2.1⟩ (hM l D cyc b adr H.size) ⟨va_cnB nP C.2.2.2.2.1 (goodIn_M cn.1) rfl rfl rfl (C.2.2.2.2.2.1 _ hl1) (C.2.2.2.2.1 _ cn.2.1) cn.2.2 rm, C.2.2.2.2.1 _ lk.1, C.2.2.2.2.1 _ lk.2.1⟩ hpre rfl (by rw [List.length_map]; exact hn) hl.1 (revmap b adr av (.ref a :: st)) hst' hd hcs
  refine E_back C w hrun (fun v sh' h' adr' H1 locs1 hq w1 _ hb => ?_)
  obtain ⟨rfl, hq⟩ := hq
  have := hb rfl
  subst this
  rw [mapapp, hz.1, hz.2]
  exact kk v h' hq p l e s m args below meth c D cyc A Z n0 b ad0 C adr' locs1 H1 ls w1 hl
theorem E_callS {Qn : Option Value → Hp → Prop} (hd : decode M.2.1 pc = .ok (.invokestatic idx, 3)) (cn : CN N nP) (lk : LS2 M.1.cls N idx) (rm : RM M N) (hn : av.length = nP) (hst : (st.map fun v => v.category).sum ≤ 8) (hz : N.2.2.2.2.cells = 0 ∧ N.2.2.2.2.slots = 0) (hc : kc ≤ M.2.2.2.2.cells ∧ ks ≤ M.2.2.2.2.slots) (hM : Sp0 N av sh h Qn) (kk : ∀ v h', Qn v h' → E M scr Q (pc + 3) lv (v.toList ++ st) sh h' kc ks) : E M scr Q pc lv (av.reverse ++ st) sh h kc ks := by
  intro p l e s m args below meth c D cyc A Z n0 b ad0 C adr locs H ls w hl
  have hpre : PreS s H (SPc av D cyc b adr sh h H.size) (av.map (rv b adr)) := ⟨SPc_blind, SPc_pre C w⟩
  have hst' : 2 * (F0 m pc ls ((av.reverse ++ st).map (rv b adr))).monitorRoom + ((st.map (rv b adr)).map fun v => v.category).sum ≤ 8 := by
    show 2 * 0 + _ ≤ 8
    rw [catsum]; omega
  have hcs : kc + N.2.2.2.2.cells ≤ M.2.2.2.2.cells ∧ ks + N.2.2.2.2.slots ≤ M.2.2.2.2.slots := by rw [hz.1, hz.2]; exact hc
  have hrun : va_Run p l e M.2.2.2.2 s m args below meth c H locs kc ks N.2.2.2.2.cells N.2.2.2.2.slots (F0 m pc ls ((av.reverse ++ st).map (rv b adr))) (st.map (rv b adr)) (SQc (fun v sh' h' => sh' = sh ∧ Qn v h') D cyc b adr sh h H.size (av.map (rv b adr)).toArray) (va_A (wsl cyc adr h sh) H.size) := by
    rcases lk.2 with hl1 | ⟨host, hl1⟩
    · exact va_runS (n := nP) ⟨C.1, C.2.1, C.2.2.1, C.2.2.2.1, C.2.2.2.2.1⟩ (hM l D cyc b adr H.size) ⟨callB_of nP C.2.2.2.2.1 (goodIn_M cn.1) rfl rfl rfl (C.2.2.2.2.1 _ cn.2.1) (C.2.2.2.2.1 _ hl1) cn.2.2 rm, C.2.2.2.2.1 _ lk.1⟩ hpre rfl (by rw [List.length_map]; exact hn) hl.1 (revmap b adr av st) hst' hd hcs
    · exact va_runSN (n := nP) ⟨C.1, C.2.1, C.2.2.1, C.2.2.2.1, C.2.2.2.2.1⟩ (hM l D cyc b adr H.size) ⟨va_cnB nP C.2.2.2.2.1 (goodIn_M cn.1) rfl rfl rfl (C.2.2.2.2.2.1 _ hl1) (C.2.2.2.2.1 _ cn.2.1) cn.2.2 rm, C.2.2.2.2.1 _ lk.1, trivial⟩ hpre rfl (by rw [List.length_map]; exact hn) hl.1 (revmap b adr av st) hst' hd hcs
  refine E_back C w hrun (fun v sh' h' adr' H1 locs1 hq w1 _ hb => ?_)
  obtain ⟨rfl, hq⟩ := hq
  have := hb rfl
  subst this
  rw [mapapp, hz.1, hz.2]
  exact kk v h' hq p l e s m args below meth c D cyc A Z n0 b ad0 C adr' locs1 H1 ls w1 hl
/-- the values whose ids are old -/
def old (n : Nat) : Value → Prop
  | .ref k => k < n
  | _ => True
theorem old_rv {n b : Nat} {adr adr' : Nat → Nat} (ha : ∀ k, k < n → adr' k = adr k) {v : Value} (hv : old n v) : rv b adr' v = rv b adr v := by
  cases v <;> first | rfl | exact congrArg Value.ref (ha _ hv)
theorem old_st {n b : Nat} {adr adr' : Nat → Nat} (ha : ∀ k, k < n → adr' k = adr k) {st : List Value} (hv : ∀ v ∈ st, old n v) : st.map (rv b adr') = st.map (rv b adr) := List.map_congr_left (fun v hm => old_rv ha (hv v hm))
theorem old_lv {n b nL : Nat} {adr adr' : Nat → Nat} (ha : ∀ k, k < n → adr' k = adr k) {lv : List (Option Value)} {ls : Array Slot} (hv : ∀ v, some v ∈ lv → old n v) (hl : Lv b adr nL lv ls) : Lv b adr' nL lv ls := ⟨hl.1, hl.2.1, fun i v hi => by rw [old_rv ha (hv v (List.mem_of_getElem? hi))]; exact hl.2.2 i v hi⟩
/-- a constructor is called; it may make cells -/
theorem E_callI {Qn : QT} {a : Nat} (hd : decode M.2.1 pc = .ok (.invokespecial idx, 3)) (cn : CN N nP) (lk : LI M.1.cls N idx) (rm : RM M N) (hn : av.length = nP) (hst : (st.map fun v => v.category).sum ≤ 8) (hc : kc + N.2.2.2.2.cells ≤ M.2.2.2.2.cells ∧ ks + N.2.2.2.2.slots ≤ M.2.2.2.2.slots) (hos : ∀ v ∈ st, old sh.length v) (hol : ∀ v, some v ∈ lv → old sh.length v) (hM : Sp N (.ref a :: av) sh h Qn) (kk : ∀ v sh' h', Qn v sh' h' → E M scr Q (pc + 3) lv (v.toList ++ st) sh' h' (kc + N.2.2.2.2.cells) (ks + N.2.2.2.2.slots)) : E M scr Q pc lv (av.reverse ++ .ref a :: st) sh h kc ks := by
  intro p l e s m args below meth c D cyc A Z n0 b ad0 C adr locs H ls w hl
  have hpre : PreS s H (SPc (.ref a :: av) D cyc b adr sh h H.size) (.ref (adr a) :: av.map (rv b adr)) := ⟨SPc_blind, SPc_pre C w⟩
  have hst' : 2 * (F0 m pc ls ((av.reverse ++ .ref a :: st).map (rv b adr))).monitorRoom + ((st.map (rv b adr)).map fun v => v.category).sum ≤ 8 := by
    show 2 * 0 + _ ≤ 8
    rw [catsum]; omega
  have hMn := hM l D cyc b adr H.size
  have hcode := cn.1
  rw [lk.2.1] at hMn hcode
  have hrun : va_Run p l e M.2.2.2.2 s m args below meth c H locs kc ks N.2.2.2.2.cells N.2.2.2.2.slots (F0 m pc ls ((av.reverse ++ .ref a :: st).map (rv b adr))) (st.map (rv b adr)) (SQc Qn D cyc b adr sh h H.size (Value.ref (adr a) :: av.map (rv b adr)).toArray) (va_A (wsl cyc adr h sh) H.size) := by
    rcases lk.2.2.2 with hl1 | ⟨host, hl1⟩
    · exact va_runI (n := nP) ⟨C.1, C.2.1, C.2.2.1, C.2.2.2.1, C.2.2.2.2.1⟩ hMn ⟨callB_of nP C.2.2.2.2.1 (goodIn_M hcode) rfl rfl rfl (C.2.2.2.2.1 _ cn.2.1) (C.2.2.2.2.1 _ hl1) cn.2.2 rm, lk.1, C.2.2.2.2.1 _ lk.2.2.1⟩ hpre rfl (by rw [List.length_map]; exact hn) hl.1 (revmap b adr av (.ref a :: st)) hst' hd hc
    · exact va_runIN (n := nP) ⟨C.1, C.2.1, C.2.2.1, C.2.2.2.1, C.2.2.2.2.1⟩ hMn ⟨va_cnB nP C.2.2.2.2.1 (goodIn_M hcode) rfl rfl rfl (C.2.2.2.2.2.1 _ hl1) (C.2.2.2.2.1 _ cn.2.1) cn.2.2 rm, lk.1, C.2.2.2.2.1 _ lk.2.2.1⟩ hpre rfl (by rw [List.length_map]; exact hn) hl.1 (revmap b adr av (.ref a :: st)) hst' hd hc
  refine E_back C w hrun (fun v sh' h' adr' H1 locs1 hq w1 ha _ => ?_)
  rw [← old_st (b := b) ha hos, mapapp]
  exact kk v sh' h' hq p l e s m args below meth c D cyc A Z n0 b ad0 C adr' locs1 H1 ls w1 (old_lv ha hol hl)
theorem cV0 {Qn : Option Value → Hp → Prop} {a ci : Nat} (hd : decode M.2.1 pc = .ok (.invokevirtual idx, 3)) (cn : CN N 0) (lk : LV M.1.cls N idx) (rm : RM M N) (hs : sh[a]? = some (.inr ci)) (hci : vwCl[ci]?.map (fun q => q.1) = some N.1.cls) (hst : (st.map fun v => v.category).sum ≤ 8) (hz : N.2.2.2.2.cells = 0 ∧ N.2.2.2.2.slots = 0) (hM : Sp0 N (.ref a :: []) sh h Qn) (kk : ∀ v h', Qn v h' → E M scr Q (pc + 3) lv (v.toList ++ st) sh h' 0 0) : E M scr Q pc lv (.ref a :: st) sh h 0 0 := E_callV (av := []) hd cn lk rm hs hci rfl hst hz ⟨Nat.zero_le _, Nat.zero_le _⟩ hM kk
theorem cS0 {Qn : Option Value → Hp → Prop} (hd : decode M.2.1 pc = .ok (.invokestatic idx, 3)) (cn : CN N 0) (lk : LS2 M.1.cls N idx) (rm : RM M N) (hst : (st.map fun v => v.category).sum ≤ 8) (hz : N.2.2.2.2.cells = 0 ∧ N.2.2.2.2.slots = 0) (hM : Sp0 N [] sh h Qn) (kk : ∀ v h', Qn v h' → E M scr Q (pc + 3) lv (v.toList ++ st) sh h' 0 0) : E M scr Q pc lv (st) sh h 0 0 := E_callS (av := []) hd cn lk rm rfl hst hz ⟨Nat.zero_le _, Nat.zero_le _⟩ hM kk
theorem cI0 {Qn : QT} {a : Nat} (hd : decode M.2.1 pc = .ok (.invokespecial idx, 3)) (cn : CN N 0) (lk : LI M.1.cls N idx) (rm : RM M N) (hst : (st.map fun v => v.category).sum ≤ 8) (hc : kc + N.2.2.2.2.cells ≤ M.2.2.2.2.cells ∧ ks + N.2.2.2.2.slots ≤ M.2.2.2.2.slots) (hos : ∀ v ∈ st, old sh.length v) (hol : ∀ v, some v ∈ lv → old sh.length v) (hM : Sp N (.ref a :: []) sh h Qn) (kk : ∀ v sh' h', Qn v sh' h' → E M scr Q (pc + 3) lv (v.toList ++ st) sh' h' (kc + N.2.2.2.2.cells) (ks + N.2.2.2.2.slots)) : E M scr Q pc lv (.ref a :: st) sh h kc ks := E_callI (av := []) hd cn lk rm rfl hst hc hos hol hM kk
theorem cV1 {Qn : Option Value → Hp → Prop} {a ci : Nat} {v1 : Value} (hd : decode M.2.1 pc = .ok (.invokevirtual idx, 3)) (cn : CN N 1) (lk : LV M.1.cls N idx) (rm : RM M N) (hs : sh[a]? = some (.inr ci)) (hci : vwCl[ci]?.map (fun q => q.1) = some N.1.cls) (hst : (st.map fun v => v.category).sum ≤ 8) (hz : N.2.2.2.2.cells = 0 ∧ N.2.2.2.2.slots = 0) (hM : Sp0 N (.ref a :: [v1]) sh h Qn) (kk : ∀ v h', Qn v h' → E M scr Q (pc + 3) lv (v.toList ++ st) sh h' 0 0) : E M scr Q pc lv (v1 :: .ref a :: st) sh h 0 0 := E_callV (av := [v1]) hd cn lk rm hs hci rfl hst hz ⟨Nat.zero_le _, Nat.zero_le _⟩ hM kk
theorem cS1 {Qn : Option Value → Hp → Prop} {v1 : Value} (hd : decode M.2.1 pc = .ok (.invokestatic idx, 3)) (cn : CN N 1) (lk : LS2 M.1.cls N idx) (rm : RM M N) (hst : (st.map fun v => v.category).sum ≤ 8) (hz : N.2.2.2.2.cells = 0 ∧ N.2.2.2.2.slots = 0) (hM : Sp0 N [v1] sh h Qn) (kk : ∀ v h', Qn v h' → E M scr Q (pc + 3) lv (v.toList ++ st) sh h' 0 0) : E M scr Q pc lv (v1 :: st) sh h 0 0 := E_callS (av := [v1]) hd cn lk rm rfl hst hz ⟨Nat.zero_le _, Nat.zero_le _⟩ hM kk
theorem cI1 {Qn : QT} {a : Nat} {v1 : Value} (hd : decode M.2.1 pc = .ok (.invokespecial idx, 3)) (cn : CN N 1) (lk : LI M.1.cls N idx) (rm : RM M N) (hst : (st.map fun v => v.category).sum ≤ 8) (hc : kc + N.2.2.2.2.cells ≤ M.2.2.2.2.cells ∧ ks + N.2.2.2.2.slots ≤ M.2.2.2.2.slots) (hos : ∀ v ∈ st, old sh.length v) (hol : ∀ v, some v ∈ lv → old sh.length v) (hM : Sp N (.ref a :: [v1]) sh h Qn) (kk : ∀ v sh' h', Qn v sh' h' → E M scr Q (pc + 3) lv (v.toList ++ st) sh' h' (kc + N.2.2.2.2.cells) (ks + N.2.2.2.2.slots)) : E M scr Q pc lv (v1 :: .ref a :: st) sh h kc ks := E_callI (av := [v1]) hd cn lk rm rfl hst hc hos hol hM kk
theorem cV2 {Qn : Option Value → Hp → Prop} {a ci : Nat} {v1 v2 : Value} (hd : decode M.2.1 pc = .ok (.invokevirtual idx, 3)) (cn : CN N 2) (lk : LV M.1.cls N idx) (rm : RM M N) (hs : sh[a]? = some (.inr ci)) (hci : vwCl[ci]?.map (fun q => q.1) = some N.1.cls) (hst : (st.map fun v => v.category).sum ≤ 8) (hz : N.2.2.2.2.cells = 0 ∧ N.2.2.2.2.slots = 0) (hM : Sp0 N (.ref a :: [v1, v2]) sh h Qn) (kk : ∀ v h', Qn v h' → E M scr Q (pc + 3) lv (v.toList ++ st) sh h' 0 0) : E M scr Q pc lv (v2 :: v1 :: .ref a :: st) sh h 0 0 := E_callV (av := [v1, v2]) hd cn lk rm hs hci rfl hst hz ⟨Nat.zero_le _, Nat.zero_le _⟩ hM kk
theorem cS2 {Qn : Option Value → Hp → Prop} {v1 v2 : Value} (hd : decode M.2.1 pc = .ok (.invokestatic idx, 3)) (cn : CN N 2) (lk : LS2 M.1.cls N idx) (rm : RM M N) (hst : (st.map fun v => v.category).sum ≤ 8) (hz : N.2.2.2.2.cells = 0 ∧ N.2.2.2.2.slots = 0) (hM : Sp0 N [v1, v2] sh h Qn) (kk : ∀ v h', Qn v h' → E M scr Q (pc + 3) lv (v.toList ++ st) sh h' 0 0) : E M scr Q pc lv (v2 :: v1 :: st) sh h 0 0 := E_callS (av := [v1, v2]) hd cn lk rm rfl hst hz ⟨Nat.zero_le _, Nat.zero_le _⟩ hM kk
theorem cI2 {Qn : QT} {a : Nat} {v1 v2 : Value} (hd : decode M.2.1 pc = .ok (.invokespecial idx, 3)) (cn : CN N 2) (lk : LI M.1.cls N idx) (rm : RM M N) (hst : (st.map fun v => v.category).sum ≤ 8) (hc : kc + N.2.2.2.2.cells ≤ M.2.2.2.2.cells ∧ ks + N.2.2.2.2.slots ≤ M.2.2.2.2.slots) (hos : ∀ v ∈ st, old sh.length v) (hol : ∀ v, some v ∈ lv → old sh.length v) (hM : Sp N (.ref a :: [v1, v2]) sh h Qn) (kk : ∀ v sh' h', Qn v sh' h' → E M scr Q (pc + 3) lv (v.toList ++ st) sh' h' (kc + N.2.2.2.2.cells) (ks + N.2.2.2.2.slots)) : E M scr Q pc lv (v2 :: v1 :: .ref a :: st) sh h kc ks := E_callI (av := [v1, v2]) hd cn lk rm rfl hst hc hos hol hM kk
theorem cV3 {Qn : Option Value → Hp → Prop} {a ci : Nat} {v1 v2 v3 : Value} (hd : decode M.2.1 pc = .ok (.invokevirtual idx, 3)) (cn : CN N 3) (lk : LV M.1.cls N idx) (rm : RM M N) (hs : sh[a]? = some (.inr ci)) (hci : vwCl[ci]?.map (fun q => q.1) = some N.1.cls) (hst : (st.map fun v => v.category).sum ≤ 8) (hz : N.2.2.2.2.cells = 0 ∧ N.2.2.2.2.slots = 0) (hM : Sp0 N (.ref a :: [v1, v2, v3]) sh h Qn) (kk : ∀ v h', Qn v h' → E M scr Q (pc + 3) lv (v.toList ++ st) sh h' 0 0) : E M scr Q pc lv (v3 :: v2 :: v1 :: .ref a :: st) sh h 0 0 := E_callV (av := [v1, v2, v3]) hd cn lk rm hs hci rfl hst hz ⟨Nat.zero_le _, Nat.zero_le _⟩ hM kk
theorem cS3 {Qn : Option Value → Hp → Prop} {v1 v2 v3 : Value} (hd : decode M.2.1 pc = .ok (.invokestatic idx, 3)) (cn : CN N 3) (lk : LS2 M.1.cls N idx) (rm : RM M N) (hst : (st.map fun v => v.category).sum ≤ 8) (hz : N.2.2.2.2.cells = 0 ∧ N.2.2.2.2.slots = 0) (hM : Sp0 N [v1, v2, v3] sh h Qn) (kk : ∀ v h', Qn v h' → E M scr Q (pc + 3) lv (v.toList ++ st) sh h' 0 0) : E M scr Q pc lv (v3 :: v2 :: v1 :: st) sh h 0 0 := E_callS (av := [v1, v2, v3]) hd cn lk rm rfl hst hz ⟨Nat.zero_le _, Nat.zero_le _⟩ hM kk
theorem cI3 {Qn : QT} {a : Nat} {v1 v2 v3 : Value} (hd : decode M.2.1 pc = .ok (.invokespecial idx, 3)) (cn : CN N 3) (lk : LI M.1.cls N idx) (rm : RM M N) (hst : (st.map fun v => v.category).sum ≤ 8) (hc : kc + N.2.2.2.2.cells ≤ M.2.2.2.2.cells ∧ ks + N.2.2.2.2.slots ≤ M.2.2.2.2.slots) (hos : ∀ v ∈ st, old sh.length v) (hol : ∀ v, some v ∈ lv → old sh.length v) (hM : Sp N (.ref a :: [v1, v2, v3]) sh h Qn) (kk : ∀ v sh' h', Qn v sh' h' → E M scr Q (pc + 3) lv (v.toList ++ st) sh' h' (kc + N.2.2.2.2.cells) (ks + N.2.2.2.2.slots)) : E M scr Q pc lv (v3 :: v2 :: v1 :: .ref a :: st) sh h kc ks := E_callI (av := [v1, v2, v3]) hd cn lk rm rfl hst hc hos hol hM kk
theorem cV4 {Qn : Option Value → Hp → Prop} {a ci : Nat} {v1 v2 v3 v4 : Value} (hd : decode M.2.1 pc = .ok (.invokevirtual idx, 3)) (cn : CN N 4) (lk : LV M.1.cls N idx) (rm : RM M N) (hs : sh[a]? = some (.inr ci)) (hci : vwCl[ci]?.map (fun q => q.1) = some N.1.cls) (hst : (st.map fun v => v.category).sum ≤ 8) (hz : N.2.2.2.2.cells = 0 ∧ N.2.2.2.2.slots = 0) (hM : Sp0 N (.ref a :: [v1, v2, v3, v4]) sh h Qn) (kk : ∀ v h', Qn v h' → E M scr Q (pc + 3) lv (v.toList ++ st) sh h' 0 0) : E M scr Q pc lv (v4 :: v3 :: v2 :: v1 :: .ref a :: st) sh h 0 0 := E_callV (av := [v1, v2, v3, v4]) hd cn lk rm hs hci rfl hst hz ⟨Nat.zero_le _, Nat.zero_le _⟩ hM kk
theorem cS4 {Qn : Option Value → Hp → Prop} {v1 v2 v3 v4 : Value} (hd : decode M.2.1 pc = .ok (.invokestatic idx, 3)) (cn : CN N 4) (lk : LS2 M.1.cls N idx) (rm : RM M N) (hst : (st.map fun v => v.category).sum ≤ 8) (hz : N.2.2.2.2.cells = 0 ∧ N.2.2.2.2.slots = 0) (hM : Sp0 N [v1, v2, v3, v4] sh h Qn) (kk : ∀ v h', Qn v h' → E M scr Q (pc + 3) lv (v.toList ++ st) sh h' 0 0) : E M scr Q pc lv (v4 :: v3 :: v2 :: v1 :: st) sh h 0 0 := E_callS (av := [v1, v2, v3, v4]) hd cn lk rm rfl hst hz ⟨Nat.zero_le _, Nat.zero_le _⟩ hM kk
theorem cV5 {Qn : Option Value → Hp → Prop} {a ci : Nat} {v1 v2 v3 v4 v5 : Value} (hd : decode M.2.1 pc = .ok (.invokevirtual idx, 3)) (cn : CN N 5) (lk : LV M.1.cls N idx) (rm : RM M N) (hs : sh[a]? = some (.inr ci)) (hci : vwCl[ci]?.map (fun q => q.1) = some N.1.cls) (hst : (st.map fun v => v.category).sum ≤ 8) (hz : N.2.2.2.2.cells = 0 ∧ N.2.2.2.2.slots = 0) (hM : Sp0 N (.ref a :: [v1, v2, v3, v4, v5]) sh h Qn) (kk : ∀ v h', Qn v h' → E M scr Q (pc + 3) lv (v.toList ++ st) sh h' 0 0) : E M scr Q pc lv (v5 :: v4 :: v3 :: v2 :: v1 :: .ref a :: st) sh h 0 0 := E_callV (av := [v1, v2, v3, v4, v5]) hd cn lk rm hs hci rfl hst hz ⟨Nat.zero_le _, Nat.zero_le _⟩ hM kk
theorem cS5 {Qn : Option Value → Hp → Prop} {v1 v2 v3 v4 v5 : Value} (hd : decode M.2.1 pc = .ok (.invokestatic idx, 3)) (cn : CN N 5) (lk : LS2 M.1.cls N idx) (rm : RM M N) (hst : (st.map fun v => v.category).sum ≤ 8) (hz : N.2.2.2.2.cells = 0 ∧ N.2.2.2.2.slots = 0) (hM : Sp0 N [v1, v2, v3, v4, v5] sh h Qn) (kk : ∀ v h', Qn v h' → E M scr Q (pc + 3) lv (v.toList ++ st) sh h' 0 0) : E M scr Q pc lv (v5 :: v4 :: v3 :: v2 :: v1 :: st) sh h 0 0 := E_callS (av := [v1, v2, v3, v4, v5]) hd cn lk rm rfl hst hz ⟨Nat.zero_le _, Nat.zero_le _⟩ hM kk
end EC
end
section
/-! new cells, references into arrays, Object's constructor, arraycopy -/
theorem cel_push {cyc : FieldType → ClassId} {adr : Nat → Nat} {h : Hp} {sh : List Sh} {q : Nat} (hnd : NoD sh h) : ∀ j s, sh[j]? = some s → (va_up adr sh.length q j, cel cyc (va_up adr sh.length q) (clr h sh.length) j s) = (adr j, cel cyc adr h j s) := by
  intro j s hs
  have hj : j < sh.length := (List.getElem?_eq_some_iff.mp hs).1
  have hne : j ≠ sh.length := Nat.ne_of_lt hj
  have e1 : (clr h sh.length).1 j = h.1 j := by funext i; simp [clr, hne]
  have e2 : (clr h sh.length).2.1 j = h.2.1 j := by funext i; simp [clr, hne]
  have e3 : ∀ i, ((clr h sh.length).2.2 j i).map (va_up adr sh.length q) = (h.2.2 j i).map adr := by
    intro i
    have e4 : (clr h sh.length).2.2 j i = h.2.2 j i := by simp [clr, hne]
    rw [e4]
    cases hx : h.2.2 j i with
    | none => rfl
    | some x => simp [va_up, Nat.ne_of_lt (hnd j i x hx)]
  have e5 : ∀ ty i, fv (va_up adr sh.length q) (clr h sh.length) j ty i = fv adr h j ty i := by
    intro ty i
    cases ty <;> simp [fv, e1, e2, e3]
  have e6 : va_up adr sh.length q j = adr j := by simp [va_up, hne]
  rw [e6]
  congr 1
  unfold cel
  split <;> simp [e1, e2, e3, e5]
theorem NoD_push {h : Hp} {sh : List Sh} {t : Sh} (hnd : NoD sh h) : NoD (sh ++ [t]) (clr h sh.length) := by
  intro j i x hx
  by_cases hj : j = sh.length
  · simp [clr, hj] at hx
  · simp [clr, hj] at hx
    have := hnd j i x hx
    simp
    omega
def tyOk : FieldType → Bool
  | .double => false
  | .float => false
  | _ => true
theorem fv_clr {adr : Nat → Nat} {h : Hp} {n j : Nat} {ty : FieldType} (ht : tyOk ty = true) : defaultValue ty = fv adr (clr h n) n ty j := by
  cases ty <;> first | (cases ht; done) | simp [fv, clr, defaultValue, va_rf]
def NW (own : String) (idx ci : Nat) : Prop := ∃ (C : String) (T : u_T), vwCl[ci]? = some (C, T, nfC ci) ∧ (∀ w ∈ u_ws C T (nfC ci), w ∈ mGood) ∧ (∀ k, k < nfC ci → parseFieldDescriptor (T k).2.2.1 = some (tyC ci k)) ∧ Cond.classLink own idx C ∈ mGood ∧ Cond.instantiable C (nfC ci) ∈ mGood ∧ Cond.initialized C ∈ mGood ∧ ∀ j, j < nfC ci → tyOk (tyC ci j) = true
section EN
variable {M : MI} {scr : Option (Nat × (Nat → Int32))} {Q : QT} {pc : Nat} {lv : List (Option Value)} {st : List Value} {sh : List Sh} {h : Hp} {kc ks : Nat}
theorem E_wn {t : Sh} {q : Nat} {p : Program} {l : Launch} {e : Env} {s : State} {m : MethodId} {args : Array Value} {below : List Frame} {meth : Method} {c : Code} {D : va_G} {cyc : FieldType → ClassId} {A : Nat → Prop} {Z : State → Prop} {n0 b : Nat} {ad0 adr : Nat → Nat} {H H1 : Heap} {locs : List Loc} {e0 : va_E} (w : Wd s D cyc A n0 ad0 adr sh h H locs) (he : cel cyc (va_up adr sh.length q) (clr h sh.length) sh.length t = e0) (g1 : va_P D vwCl (wsl cyc adr h sh ++ [(q, e0)]) H1) (g2 : va_D A (wsl cyc adr h sh ++ [(q, e0)])) (g3 : va_S A s.heap H1 locs) : Wd s D cyc A n0 ad0 (va_up adr sh.length q) (sh ++ [t]) (clr h sh.length) H1 locs := by
  have hw := wsl_push (q := q) (adr' := va_up adr sh.length q) (h' := clr h sh.length) (t := t) (by simp [va_up]) he (cel_push w.2.2.2.2.2.2)
  rw [hw] at g1 g2
  refine ⟨g1, g2, g3, fun k hk => ?_, fun hk => ?_, ?_, NoD_push w.2.2.2.2.2.2⟩
  · have := w.2.2.2.2.2.1
    rw [va_up_ne _ _ (by omega)]
    exact w.2.2.2.1 k hk
  · have := w.2.2.2.2.2.1
    simp at hk
    omega
  · have := w.2.2.2.2.2.1
    simp
    omega
theorem E_new {ci idx : Nat} (hd : decode M.2.1 pc = .ok (.new idx, 3)) (f : NW M.1.cls idx ci) (hc : kc + 1 ≤ M.2.2.2.2.cells) (hk : ks + nfC ci ≤ M.2.2.2.2.slots) (hos : ∀ v ∈ st, old sh.length v) (hol : ∀ v, some v ∈ lv → old sh.length v) (kk : E M scr Q (pc + 3) lv (.ref sh.length :: st) (sh ++ [.inr ci]) (clr h sh.length) (kc + 1) (ks + nfC ci)) : E M scr Q pc lv st sh h kc ks := by
  intro p l e s m args below meth c D cyc A Z n0 b ad0 C adr locs H ls w hl
  obtain ⟨C', T, hcl, hin, hty, f1, f2, f3, f4⟩ := f
  refine va_new C.1 C.2.1 C.2.2.2.2.1 hin (tyC ci) hty C.2.2.2.1 (C.2.2.2.2.1 _ f1) (C.2.2.2.2.1 _ f2) (C.2.2.2.2.1 _ f3) C.2.2.2.2.2.2.2.2.2.1 w.1 w.2.1 w.2.2.1 C.2.2.2.2.2.2.2.2.1 hcl (fs := (List.range (nfC ci)).map (fun j => fv adr (clr h sh.length) sh.length (tyC ci j) j)) (fun j hj => ?_) hc hk hd (fun q H1 g1 g2 g3 => ?_)
  · rw [fv_clr (adr := adr) (h := h) (n := sh.length) (j := j) (f4 j hj)]
    simp [vp_V, hj]
  · have he : cel cyc (va_up adr sh.length q) (clr h sh.length) sh.length (.inr ci) = .inr (ci, (List.range (nfC ci)).map (fun j => fv adr (clr h sh.length) sh.length (tyC ci j) j)) := by
      show Sum.inr (ci, _) = _
      congr 2
      apply List.map_congr_left
      intro j hj
      rw [← fv_clr (f4 j (List.mem_range.mp hj)), ← fv_clr (f4 j (List.mem_range.mp hj))]
    have ha : ∀ k, k < sh.length → va_up adr sh.length q k = adr k := fun k hk => va_up_ne _ _ (Nat.ne_of_lt hk)
    have h9 := kk p l e s m args below meth c D cyc A Z n0 b ad0 C (va_up adr sh.length q) locs H1 ls (E_wn (p := p) (l := l) (e := e) (m := m) (args := args) (below := below) (meth := meth) (c := c) (Z := Z) (b := b) w he g1 g2 g3) (old_lv ha hol hl)
    rw [List.map_cons, old_st ha hos, show rv b (va_up adr sh.length q) (.ref sh.length) = .ref q by simp [rv, va_up]] at h9
    exact h9
theorem E_objInit {a idx : Nat} (hd : decode M.2.1 pc = .ok (.invokespecial idx, 3)) (h1 : Cond.methodLink M.1.cls idx Lib.objectInit ∈ mGood) (h2 : Cond.instanceMethod Lib.objectInit ∈ mGood) (h3 : Cond.code Lib.objectInit ⟨#[0xb1]⟩ 1 none ∈ mGood) (hf : 1 ≤ M.2.2.2.2.frames) (hlo : (st.map fun v => v.category).sum + 12 ≤ M.2.2.2.2.locals) (kk : E M scr Q (pc + 3) lv st sh h kc ks) : E M scr Q pc lv (.ref a :: st) sh h kc ks := by
  intro p l e s m args below meth c D cyc A Z n0 b ad0 C adr locs H ls w hl
  exact W.objInit C.1 C.2.1 C.2.2.2.1 (C.2.2.2.2.1 _ h1) (C.2.2.2.2.1 _ h2) (C.2.2.2.2.1 _ h3) rfl (by rw [C.2.2.1]; exact hl.1) rfl hd hf (by show 2 * 0 + _ + 12 ≤ _; rw [catsum]; omega) (kk p l e s m args below meth c D cyc A Z n0 b ad0 C adr locs H ls w hl)
theorem E_anewa {idx N : Nat} {n : Int32} (hd : decode M.2.1 pc = .ok (.anewarray idx, 3)) (f1 : Cond.classLink M.1.cls idx RX3 ∈ mGood) (hn : ¬ n < 0) (hN : n.toNatClampNeg = N) (hb : N * 4 ≤ 536870912) (hc : kc + 1 ≤ M.2.2.2.2.cells) (hk : ks + N ≤ M.2.2.2.2.slots) (hos : ∀ v ∈ st, old sh.length v) (hol : ∀ v, some v ∈ lv → old sh.length v) (kk : E M scr Q (pc + 3) lv (.ref sh.length :: st) (sh ++ [.inl (.object RX3, N)]) (clr h sh.length) (kc + 1) (ks + N)) : E M scr Q pc lv (.int n :: st) sh h kc ks := by
  intro p l e s m args below meth c D cyc A Z n0 b ad0 C adr locs H ls w hl
  refine va_newq C.1 C.2.1 C.2.2.2.1 (C.2.2.2.2.1 _ f1) C.2.2.2.2.2.2.1 C.2.2.2.2.2.2.2.2.2.1 w.1 w.2.1 w.2.2.1 C.2.2.2.2.2.2.2.2.1 hn hN hb hc hk hd (fun q cA H1 gK g1 g2 g3 => ?_)
  have hcA : cA = cyc (.object RX3) := by
    obtain ⟨_, _, _, _, _, r1⟩ := (gK.2 5 (cA, .object RX3) rfl).2
    obtain ⟨_, _, _, _, _, r2⟩ := (C.2.2.2.2.2.2.2.2.2.1.2 4 (cyc (.object RX3), .object RX3) rfl).2
    exact Option.some.inj (r1.symm.trans r2)
  subst hcA
  have he : cel cyc (va_up adr sh.length q) (clr h sh.length) sh.length (.inl (.object RX3, N)) = .inl (cyc (.object RX3), N, .inr (.inr (.inr (.inr (fun _ => none))))) := by
    have e1 : (fun j => ((clr h sh.length).2.2 sh.length j).map (va_up adr sh.length q)) = fun _ => none := by funext j; simp [clr]
    show Sum.inl (cyc (.object RX3), N, Sum.inr (Sum.inr (Sum.inr (Sum.inr (fun j => ((clr h sh.length).2.2 sh.length j).map (va_up adr sh.length q)))))) = _
    rw [e1]
  have ha : ∀ k, k < sh.length → va_up adr sh.length q k = adr k := fun k hk => va_up_ne _ _ (Nat.ne_of_lt hk)
  have h9 := kk p l e s m args below meth c D cyc A Z n0 b ad0 C (va_up adr sh.length q) locs H1 ls (E_wn (p := p) (l := l) (e := e) (m := m) (args := args) (below := below) (meth := meth) (c := c) (Z := Z) (b := b) w he g1 g2 g3) (old_lv ha hol hl)
  rw [List.map_cons, old_st ha hos, show rv b (va_up adr sh.length q) (.ref sh.length) = .ref q by simp [rv, va_up]] at h9
  exact h9
theorem E_aast {a n x : Nat} {i : Int32} (hd : decode M.2.1 pc = .ok (.aastore, 1)) (hs : sh[a]? = some (.inl (.object RX3, n))) (hx : sh[x]? = some (.inr 3)) (hin : vp_in i n) (kk : E M scr Q (pc + 1) lv st sh (sR h a i.toNatClampNeg (some x)) kc ks) : E M scr Q pc lv (.ref x :: .int i :: .ref a :: st) sh h kc ks := by
  intro p l e s m args below meth c D cyc A Z n0 b ad0 C adr locs H ls w hl
  have he : cel cyc adr (sR h a i.toNatClampNeg (some x)) a (.inl (.object RX3, n)) = .inl (cyc (.object RX3), n, .inr (.inr (.inr (.inr (va_up (fun j => (h.2.2 a j).map adr) i.toNatClampNeg (some (adr x))))))) := by
    have e1 : (fun j => ((sR h a i.toNatClampNeg (some x)).2.2 a j).map adr) = va_up (fun j => (h.2.2 a j).map adr) i.toNatClampNeg (some (adr x)) := by
      funext j
      by_cases hj : j = i.toNatClampNeg <;> simp [sR, u2, va_up, hj]
    show Sum.inl (cyc (.object RX3), n, Sum.inr (Sum.inr (Sum.inr (Sum.inr (fun j => ((sR h a i.toNatClampNeg (some x)).2.2 a j).map adr))))) = _
    rw [e1]
  have hw := wsl_set (h := h) hs he (fun j t hj => cel_oR cyc adr h a i.toNatClampNeg (some x) j t hj)
  refine va_astq C.1 C.2.1 C.2.2.2.2.2.2.2.2.2.1 w.1 w.2.1 w.2.2.1 a 4 x 3 (wsl_at hs) rfl (wsl_at hx) rfl hin hd (fun H1 locs1 g1 g2 g3 => ?_)
  rw [hw] at g1 g2
  exact kk p l e s m args below meth c D cyc A Z n0 b ad0 C adr locs1 H1 ls ⟨g1, g2, g3, w.2.2.2.1, w.2.2.2.2.1, w.2.2.2.2.2.1, NoD_sR (List.getElem?_eq_some_iff.mp hx).1 w.2.2.2.2.2.2⟩ hl
/-- longs of a row are copied to another -/
def cpL (h : Hp) (a b sp dp n : Nat) : Hp := (h.1, fun x j => if x = b then va_cpy (h.2.1 a) (h.2.1 b) sp dp n j else h.2.1 x j, h.2.2)
theorem E_copyl {a0 a1 m0 m1 idx : Nat} {sp dp n : Int32} (hd : decode M.2.1 pc = .ok (.invokestatic idx, 3)) (f1 : Cond.methodLink M.1.cls idx arraycopyName ∈ mGood) (f2 : Cond.native arraycopyName ∈ mGood) (f3 : Cond.static arraycopyName ∈ mGood) (f4 : Cond.initialized "java/lang/System" ∈ mGood) (hs0 : sh[a0]? = some (.inl (.long, m0))) (hs1 : sh[a1]? = some (.inl (.long, m1))) (h1 : ¬ sp < 0) (h2 : ¬ dp < 0) (h3 : ¬ n < 0) (h4 : sp.toNatClampNeg + n.toNatClampNeg ≤ m0) (h5 : dp.toNatClampNeg + n.toNatClampNeg ≤ m1) (hf : 1 ≤ M.2.2.2.2.frames) (hlo : (st.map fun v => v.category).sum + (nativeFrameWords "java/lang/System" "arraycopy" 5 + 11) ≤ M.2.2.2.2.locals) (kk : E M scr Q (pc + 3) lv st sh (cpL h a0 a1 sp.toNatClampNeg dp.toNatClampNeg n.toNatClampNeg) kc ks) : E M scr Q pc lv (.int n :: .int dp :: .ref a1 :: .int sp :: .ref a0 :: st) sh h kc ks := by
  intro p l e s m args below meth c D cyc A Z n0 b ad0 C adr locs H ls w hl
  have he : cel cyc adr (cpL h a0 a1 sp.toNatClampNeg dp.toNatClampNeg n.toNatClampNeg) a1 (.inl (.long, m1)) = .inl (cyc .long, m1, .inr (.inl (va_cpy (h.2.1 a0) (h.2.1 a1) sp.toNatClampNeg dp.toNatClampNeg n.toNatClampNeg))) := by
    have e1 : (cpL h a0 a1 sp.toNatClampNeg dp.toNatClampNeg n.toNatClampNeg).2.1 a1 = va_cpy (h.2.1 a0) (h.2.1 a1) sp.toNatClampNeg dp.toNatClampNeg n.toNatClampNeg := by funext j; simp [cpL]
    show Sum.inl (cyc .long, m1, Sum.inr (Sum.inl ((cpL h a0 a1 sp.toNatClampNeg dp.toNatClampNeg n.toNatClampNeg).2.1 a1))) = _
    rw [e1]
  have ho : ∀ j t, j ≠ a1 → cel cyc adr (cpL h a0 a1 sp.toNatClampNeg dp.toNatClampNeg n.toNatClampNeg) j t = cel cyc adr h j t := by
    intro j t hj
    have e1 : (cpL h a0 a1 sp.toNatClampNeg dp.toNatClampNeg n.toNatClampNeg).2.1 j = h.2.1 j := by funext i; simp [cpL, hj]
    have e2 : ∀ ty i, fv adr (cpL h a0 a1 sp.toNatClampNeg dp.toNatClampNeg n.toNatClampNeg) j ty i = fv adr h j ty i := by intro ty i; cases ty <;> simp [fv, e1] <;> rfl
    unfold cel
    split <;> simp [e1, e2] <;> rfl
  have hw := wsl_set (h := h) hs1 he ho
  refine va_copyl C.1 C.2.1 (by rw [C.2.2.1]; exact hl.1.symm) C.2.2.2.1 (C.2.2.2.2.1 _ f1) (C.2.2.2.2.1 _ f2) (C.2.2.2.2.1 _ f3) (C.2.2.2.2.1 _ f4) C.2.2.2.2.2.2.2.2.2.1 w.1 w.2.1 w.2.2.1 a0 a1 2 2 (wsl_at hs0) (wsl_at hs1) rfl rfl rfl h1 h2 h3 h4 h5 (fun _ _ => rfl) hf (by rw [catsum]; exact hlo) hd (fun H1 locs1 g1 g2 g3 => ?_)
  rw [hw] at g1 g2
  exact kk p l e s m args below meth c D cyc A Z n0 b ad0 C adr locs1 H1 ls ⟨g1, g2, g3, w.2.2.2⟩ hl
theorem E_newa_i {N : Nat} {n : Int32} (hd : decode M.2.1 pc = .ok (.newarray .int, 2)) (f1 : Cond.arrayClass .int ∈ mGood) (hn : ¬ n < 0) (hN : n.toNatClampNeg = N) (hb : N * componentBytes .int ≤ 536870912) (hc : kc + 1 ≤ M.2.2.2.2.cells) (hk : ks + N ≤ M.2.2.2.2.slots) (hos : ∀ v ∈ st, old sh.length v) (hol : ∀ v, some v ∈ lv → old sh.length v) (kk : E M scr Q (pc + 2) lv (.ref sh.length :: st) (sh ++ [.inl (.int, N)]) (clr h sh.length) (kc + 1) (ks + N)) : E M scr Q pc lv (.int n :: st) sh h kc ks := by
  intro p l e s m args below meth c D cyc A Z n0 b ad0 C adr locs H ls w hl
  refine va_newa (atype := .int) C.1 C.2.1 (C.2.2.2.2.1 _ f1) rfl C.2.2.2.2.2.2.2.2.2.1 w.1 w.2.1 w.2.2.1 C.2.2.2.2.2.2.2.2.1 (a0 := (N, .inl (fun _ => 0))) (fun cA => rfl) hn hN hb hc hk hd (fun q cA H1 gK g1 g2 g3 => ?_)
  have hcA : cA = cyc .int := by
    have r1 := (gK.2 5 (cA, .int) rfl).2
    have r2 := (C.2.2.2.2.2.2.2.2.2.1.2 1 (cyc .int, .int) rfl).2
    exact Option.some.inj (r1.symm.trans r2)
  subst hcA
  have he : cel cyc (va_up adr sh.length q) (clr h sh.length) sh.length (.inl (.int, N)) = .inl (cyc .int, (N, .inl (fun _ => 0))) := by
    have e1 : (clr h sh.length).1 sh.length = fun _ => 0 := by funext j; simp [clr]
    show Sum.inl (cyc .int, N, Sum.inl ((clr h sh.length).1 sh.length)) = _
    rw [e1]
  have ha : ∀ k, k < sh.length → va_up adr sh.length q k = adr k := fun k hk => va_up_ne _ _ (Nat.ne_of_lt hk)
  have h9 := kk p l e s m args below meth c D cyc A Z n0 b ad0 C (va_up adr sh.length q) locs H1 ls (E_wn (p := p) (l := l) (e := e) (m := m) (args := args) (below := below) (meth := meth) (c := c) (Z := Z) (b := b) w he g1 g2 g3) (old_lv ha hol hl)
  rw [List.map_cons, old_st ha hos, show rv b (va_up adr sh.length q) (.ref sh.length) = .ref q by simp [rv, va_up]] at h9
  exact h9
theorem E_newa_b {N : Nat} {n : Int32} (hd : decode M.2.1 pc = .ok (.newarray .byte, 2)) (f1 : Cond.arrayClass .byte ∈ mGood) (hn : ¬ n < 0) (hN : n.toNatClampNeg = N) (hb : N * componentBytes .byte ≤ 536870912) (hc : kc + 1 ≤ M.2.2.2.2.cells) (hk : ks + N ≤ M.2.2.2.2.slots) (hos : ∀ v ∈ st, old sh.length v) (hol : ∀ v, some v ∈ lv → old sh.length v) (kk : E M scr Q (pc + 2) lv (.ref sh.length :: st) (sh ++ [.inl (.byte, N)]) (clr h sh.length) (kc + 1) (ks + N)) : E M scr Q pc lv (.int n :: st) sh h kc ks := by
  intro p l e s m args below meth c D cyc A Z n0 b ad0 C adr locs H ls w hl
  refine va_newa (atype := .byte) C.1 C.2.1 (C.2.2.2.2.1 _ f1) rfl C.2.2.2.2.2.2.2.2.2.1 w.1 w.2.1 w.2.2.1 C.2.2.2.2.2.2.2.2.1 (a0 := (N, .inl (fun _ => 0))) (fun cA => rfl) hn hN hb hc hk hd (fun q cA H1 gK g1 g2 g3 => ?_)
  have hcA : cA = cyc .byte := by
    have r1 := (gK.2 5 (cA, .byte) rfl).2
    have r2 := (C.2.2.2.2.2.2.2.2.2.1.2 0 (cyc .byte, .byte) rfl).2
    exact Option.some.inj (r1.symm.trans r2)
  subst hcA
  have he : cel cyc (va_up adr sh.length q) (clr h sh.length) sh.length (.inl (.byte, N)) = .inl (cyc .byte, (N, .inl (fun _ => 0))) := by
    have e1 : (clr h sh.length).1 sh.length = fun _ => 0 := by funext j; simp [clr]
    show Sum.inl (cyc .byte, N, Sum.inl ((clr h sh.length).1 sh.length)) = _
    rw [e1]
  have ha : ∀ k, k < sh.length → va_up adr sh.length q k = adr k := fun k hk => va_up_ne _ _ (Nat.ne_of_lt hk)
  have h9 := kk p l e s m args below meth c D cyc A Z n0 b ad0 C (va_up adr sh.length q) locs H1 ls (E_wn (p := p) (l := l) (e := e) (m := m) (args := args) (below := below) (meth := meth) (c := c) (Z := Z) (b := b) w he g1 g2 g3) (old_lv ha hol hl)
  rw [List.map_cons, old_st ha hos, show rv b (va_up adr sh.length q) (.ref sh.length) = .ref q by simp [rv, va_up]] at h9
  exact h9
theorem E_newa_z {N : Nat} {n : Int32} (hd : decode M.2.1 pc = .ok (.newarray .boolean, 2)) (f1 : Cond.arrayClass .boolean ∈ mGood) (hn : ¬ n < 0) (hN : n.toNatClampNeg = N) (hb : N * componentBytes .boolean ≤ 536870912) (hc : kc + 1 ≤ M.2.2.2.2.cells) (hk : ks + N ≤ M.2.2.2.2.slots) (hos : ∀ v ∈ st, old sh.length v) (hol : ∀ v, some v ∈ lv → old sh.length v) (kk : E M scr Q (pc + 2) lv (.ref sh.length :: st) (sh ++ [.inl (.boolean, N)]) (clr h sh.length) (kc + 1) (ks + N)) : E M scr Q pc lv (.int n :: st) sh h kc ks := by
  intro p l e s m args below meth c D cyc A Z n0 b ad0 C adr locs H ls w hl
  refine va_newa (atype := .boolean) C.1 C.2.1 (C.2.2.2.2.1 _ f1) rfl C.2.2.2.2.2.2.2.2.2.1 w.1 w.2.1 w.2.2.1 C.2.2.2.2.2.2.2.2.1 (a0 := (N, .inl (fun _ => 0))) (fun cA => rfl) hn hN hb hc hk hd (fun q cA H1 gK g1 g2 g3 => ?_)
  have hcA : cA = cyc .boolean := by
    have r1 := (gK.2 5 (cA, .boolean) rfl).2
    have r2 := (C.2.2.2.2.2.2.2.2.2.1.2 3 (cyc .boolean, .boolean) rfl).2
    exact Option.some.inj (r1.symm.trans r2)
  subst hcA
  have he : cel cyc (va_up adr sh.length q) (clr h sh.length) sh.length (.inl (.boolean, N)) = .inl (cyc .boolean, (N, .inl (fun _ => 0))) := by
    have e1 : (clr h sh.length).1 sh.length = fun _ => 0 := by funext j; simp [clr]
    show Sum.inl (cyc .boolean, N, Sum.inl ((clr h sh.length).1 sh.length)) = _
    rw [e1]
  have ha : ∀ k, k < sh.length → va_up adr sh.length q k = adr k := fun k hk => va_up_ne _ _ (Nat.ne_of_lt hk)
  have h9 := kk p l e s m args below meth c D cyc A Z n0 b ad0 C (va_up adr sh.length q) locs H1 ls (E_wn (p := p) (l := l) (e := e) (m := m) (args := args) (below := below) (meth := meth) (c := c) (Z := Z) (b := b) w he g1 g2 g3) (old_lv ha hol hl)
  rw [List.map_cons, old_st ha hos, show rv b (va_up adr sh.length q) (.ref sh.length) = .ref q by simp [rv, va_up]] at h9
  exact h9
theorem E_newa_l {N : Nat} {n : Int32} (hd : decode M.2.1 pc = .ok (.newarray .long, 2)) (f1 : Cond.arrayClass .long ∈ mGood) (hn : ¬ n < 0) (hN : n.toNatClampNeg = N) (hb : N * componentBytes .long ≤ 536870912) (hc : kc + 1 ≤ M.2.2.2.2.cells) (hk : ks + N ≤ M.2.2.2.2.slots) (hos : ∀ v ∈ st, old sh.length v) (hol : ∀ v, some v ∈ lv → old sh.length v) (kk : E M scr Q (pc + 2) lv (.ref sh.length :: st) (sh ++ [.inl (.long, N)]) (clr h sh.length) (kc + 1) (ks + N)) : E M scr Q pc lv (.int n :: st) sh h kc ks := by
  intro p l e s m args below meth c D cyc A Z n0 b ad0 C adr locs H ls w hl
  refine va_newa (atype := .long) C.1 C.2.1 (C.2.2.2.2.1 _ f1) rfl C.2.2.2.2.2.2.2.2.2.1 w.1 w.2.1 w.2.2.1 C.2.2.2.2.2.2.2.2.1 (a0 := (N, .inr (.inl (fun _ => 0)))) (fun cA => rfl) hn hN hb hc hk hd (fun q cA H1 gK g1 g2 g3 => ?_)
  have hcA : cA = cyc .long := by
    have r1 := (gK.2 5 (cA, .long) rfl).2
    have r2 := (C.2.2.2.2.2.2.2.2.2.1.2 2 (cyc .long, .long) rfl).2
    exact Option.some.inj (r1.symm.trans r2)
  subst hcA
  have he : cel cyc (va_up adr sh.length q) (clr h sh.length) sh.length (.inl (.long, N)) = .inl (cyc .long, (N, .inr (.inl (fun _ => 0)))) := by
    have e1 : (clr h sh.length).2.1 sh.length = fun _ => 0 := by funext j; simp [clr]
    show Sum.inl (cyc .long, N, Sum.inr (Sum.inl ((clr h sh.length).2.1 sh.length))) = _
    rw [e1]
  have ha : ∀ k, k < sh.length → va_up adr sh.length q k = adr k := fun k hk => va_up_ne _ _ (Nat.ne_of_lt hk)
  have h9 := kk p l e s m args below meth c D cyc A Z n0 b ad0 C (va_up adr sh.length q) locs H1 ls (E_wn (p := p) (l := l) (e := e) (m := m) (args := args) (below := below) (meth := meth) (c := c) (Z := Z) (b := b) w he g1 g2 g3) (old_lv ha hol hl)
  rw [List.map_cons, old_st ha hos, show rv b (va_up adr sh.length q) (.ref sh.length) = .ref q by simp [rv, va_up]] at h9
  exact h9
end EN
end
section
/-! method records, links: by program -/
theorem mg_all (ws : List Cond) (ps : List Nat) (hp : ws = ps.filterMap (fun i => lw_tbl[i]?)) (hg : ws.all goodWord = true) : ∀ w ∈ ws, w ∈ mGood := by
  intro w hw
  refine List.mem_filter.mpr ⟨?_, List.all_eq_true.mp hg w hw⟩
  rw [hp] at hw
  obtain ⟨i, -, hi⟩ := List.mem_filterMap.mp hw
  exact List.mem_of_getElem? hi
abbrev mX0_init : MI := (yX0_init, cX0_init, 1, none, { frames := 1, cells := 0, slots := 0, locals := 20 })
abbrev mX0_tellLoss : MI := (yX0_tellLoss, cX0_tellLoss, 4, some .int, { frames := 1, cells := 0, slots := 0, locals := 21 })
abbrev mX0_bytesBy : MI := (yX0_bytesBy, cX0_bytesBy, 2, some .long, { frames := 0, cells := 0, slots := 0, locals := 0 })
abbrev mX0_carry : MI := (yX0_carry, cX0_carry, 4, some .boolean, { frames := 0, cells := 0, slots := 0, locals := 0 })
abbrev mX1_init : MI := (yX1_init, cX1_init, 1, none, { frames := 2, cells := 5, slots := 1507, locals := 42 })
abbrev mX1_become : MI := (yX1_become, cX1_become, 3, none, { frames := 0, cells := 0, slots := 0, locals := 0 })
abbrev mX1_isByTarget : MI := (yX1_isByTarget, cX1_isByTarget, 1, some .boolean, { frames := 0, cells := 0, slots := 0, locals := 0 })
abbrev mX2_init : MI := (yX2_init, cX2_init, 2, none, { frames := 2, cells := 5, slots := 534, locals := 42 })
abbrev mX2_start : MI := (yX2_start, cX2_start, 6, none, { frames := 2, cells := 0, slots := 0, locals := 41 })
abbrev mX2_wantsMore : MI := (yX2_wantsMore, cX2_wantsMore, 1, some .boolean, { frames := 1, cells := 0, slots := 0, locals := 21 })
abbrev mX2_toDoCount : MI := (yX2_toDoCount, cX2_toDoCount, 3, some .int, { frames := 0, cells := 0, slots := 0, locals := 0 })
abbrev mX2_makeNext : MI := (yX2_makeNext, cX2_makeNext, 3, none, { frames := 2, cells := 0, slots := 0, locals := 49 })
abbrev mX2_takeNode : MI := (yX2_takeNode, cX2_takeNode, 4, none, { frames := 1, cells := 0, slots := 0, locals := 21 })
abbrev mX2_takeGone : MI := (yX2_takeGone, cX2_takeGone, 1, none, { frames := 3, cells := 0, slots := 0, locals := 69 })
abbrev mX2_takeBytes : MI := (yX2_takeBytes, cX2_takeBytes, 2, none, { frames := 2, cells := 0, slots := 0, locals := 44 })
abbrev mX2_takeBlock : MI := (yX2_takeBlock, cX2_takeBlock, 5, none, { frames := 2, cells := 0, slots := 0, locals := 43 })
abbrev mX2_takeEnd : MI := (yX2_takeEnd, cX2_takeEnd, 3, none, { frames := 3, cells := 0, slots := 0, locals := 70 })
abbrev mX2_dropTold : MI := (yX2_dropTold, cX2_dropTold, 2, none, { frames := 3, cells := 0, slots := 0, locals := 69 })
abbrev mX2_forgetBuilt : MI := (yX2_forgetBuilt, cX2_forgetBuilt, 1, none, { frames := 1, cells := 0, slots := 0, locals := 21 })
abbrev mX2_settle : MI := (yX2_settle, cX2_settle, 1, none, { frames := 1, cells := 0, slots := 0, locals := 20 })
abbrev mX2_putToWait : MI := (yX2_putToWait, cX2_putToWait, 2, none, { frames := 0, cells := 0, slots := 0, locals := 0 })
abbrev mX2_leastToDo : MI := (yX2_leastToDo, cX2_leastToDo, 2, some .int, { frames := 0, cells := 0, slots := 0, locals := 0 })
abbrev mX3_init : MI := (yX3_init, cX3_init, 2, none, { frames := 1, cells := 1, slots := 500, locals := 21 })
abbrev mX3_count : MI := (yX3_count, cX3_count, 1, some .int, { frames := 0, cells := 0, slots := 0, locals := 0 })
abbrev mX3_holds : MI := (yX3_holds, cX3_holds, 3, some .boolean, { frames := 0, cells := 0, slots := 0, locals := 0 })
abbrev mX3_get : MI := (yX3_get, cX3_get, 2, some .int, { frames := 0, cells := 0, slots := 0, locals := 0 })
abbrev mX3_set : MI := (yX3_set, cX3_set, 3, none, { frames := 0, cells := 0, slots := 0, locals := 0 })
abbrev mX3_add : MI := (yX3_add, cX3_add, 2, none, { frames := 1, cells := 0, slots := 0, locals := 22 })
abbrev mX3_addAll : MI := (yX3_addAll, cX3_addAll, 3, none, { frames := 1, cells := 0, slots := 0, locals := 22 })
abbrev mX3_keep : MI := (yX3_keep, cX3_keep, 2, none, { frames := 0, cells := 0, slots := 0, locals := 0 })
abbrev mX3_digestOf : MI := (yX3_digestOf, cX3_digestOf, 6, some .long, { frames := 0, cells := 0, slots := 0, locals := 0 })
abbrev mX3_weakOf : MI := (yX3_weakOf, cX3_weakOf, 6, some .long, { frames := 0, cells := 0, slots := 0, locals := 0 })
abbrev mX4_init : MI := (yX4_init, cX4_init, 4, none, { frames := 3, cells := 16, slots := 3075, locals := 63 })
abbrev mX4_goes : MI := (yX4_goes, cX4_goes, 1, some .boolean, { frames := 0, cells := 0, slots := 0, locals := 0 })
abbrev mX4_start : MI := (yX4_start, cX4_start, 5, none, { frames := 3, cells := 0, slots := 0, locals := 66 })
abbrev mX4_stop : MI := (yX4_stop, cX4_stop, 1, some .int, { frames := 2, cells := 0, slots := 0, locals := 41 })
abbrev mX4_oneStep : MI := (yX4_oneStep, cX4_oneStep, 1, none, { frames := 5, cells := 0, slots := 0, locals := 117 })
abbrev mX4_tell : MI := (yX4_tell, cX4_tell, 2, some .int, { frames := 1, cells := 0, slots := 0, locals := 22 })
abbrev mX4_builtByte : MI := (yX4_builtByte, cX4_builtByte, 2, some .int, { frames := 1, cells := 0, slots := 0, locals := 21 })
abbrev mX4_sumOf : MI := (yX4_sumOf, cX4_sumOf, 3, some .long, { frames := 1, cells := 0, slots := 0, locals := 22 })
abbrev mX4_makeMessage : MI := (yX4_makeMessage, cX4_makeMessage, 1, none, { frames := 4, cells := 0, slots := 0, locals := 97 })
abbrev mX4_emit : MI := (yX4_emit, cX4_emit, 1, none, { frames := 1, cells := 0, slots := 0, locals := 23 })
abbrev mX4_takeMessage : MI := (yX4_takeMessage, cX4_takeMessage, 1, none, { frames := 4, cells := 0, slots := 0, locals := 92 })
abbrev mX4_finishIfNothingFollows : MI := (yX4_finishIfNothingFollows, cX4_finishIfNothingFollows, 2, none, { frames := 4, cells := 0, slots := 0, locals := 90 })
abbrev mX5_init : MI := (yX5_init, cX5_init, 2, none, { frames := 2, cells := 3, slots := 1005, locals := 40 })
abbrev mX5_start : MI := (yX5_start, cX5_start, 2, none, { frames := 0, cells := 0, slots := 0, locals := 0 })
abbrev mX5_takeSums : MI := (yX5_takeSums, cX5_takeSums, 3, none, { frames := 2, cells := 0, slots := 0, locals := 61 })
abbrev mX5_makeNode : MI := (yX5_makeNode, cX5_makeNode, 2, none, { frames := 1, cells := 0, slots := 0, locals := 22 })
abbrev mX5_makeNext : MI := (yX5_makeNext, cX5_makeNext, 3, none, { frames := 3, cells := 0, slots := 0, locals := 75 })
abbrev mX5_makePart : MI := (yX5_makePart, cX5_makePart, 6, none, { frames := 2, cells := 0, slots := 0, locals := 50 })
abbrev mX5_look : MI := (yX5_look, cX5_look, 6, some .int, { frames := 1, cells := 0, slots := 0, locals := 25 })
abbrev mX6_init : MI := (yX6_init, cX6_init, 2, none, { frames := 2, cells := 19, slots := 4048, locals := 48 })
abbrev mX6_existing : MI := (yX6_existing, cX6_existing, 2, some (.object "RollingSync$Row"), { frames := 1, cells := 0, slots := 0, locals := 20 })
abbrev mX6_countOf : MI := (yX6_countOf, cX6_countOf, 3, some .int, { frames := 2, cells := 0, slots := 0, locals := 41 })
abbrev mX6_digestAt : MI := (yX6_digestAt, cX6_digestAt, 2, some .long, { frames := 0, cells := 0, slots := 0, locals := 0 })
abbrev mX6_put : MI := (yX6_put, cX6_put, 7, none, { frames := 2, cells := 0, slots := 0, locals := 48 })
abbrev mX6_replace : MI := (yX6_replace, cX6_replace, 3, none, { frames := 2, cells := 0, slots := 0, locals := 48 })
abbrev mX6_remove : MI := (yX6_remove, cX6_remove, 2, none, { frames := 2, cells := 0, slots := 0, locals := 48 })
abbrev mX6_refresh : MI := (yX6_refresh, cX6_refresh, 3, none, { frames := 1, cells := 0, slots := 0, locals := 26 })
abbrev mX6_mixed : MI := (yX6_mixed, cX6_mixed, 7, some .long, { frames := 0, cells := 0, slots := 0, locals := 0 })
abbrev mX7_init : MI := (yX7_init, cX7_init, 1, none, { frames := 1, cells := 2, slots := 1000, locals := 20 })
abbrev mX7_count : MI := (yX7_count, cX7_count, 1, some .int, { frames := 0, cells := 0, slots := 0, locals := 0 })
abbrev mX7_block : MI := (yX7_block, cX7_block, 1, some .int, { frames := 0, cells := 0, slots := 0, locals := 0 })
abbrev mX7_k : MI := (yX7_k, cX7_k, 1, some .int, { frames := 0, cells := 0, slots := 0, locals := 0 })
abbrev mX7_fill : MI := (yX7_fill, cX7_fill, 5, none, { frames := 1, cells := 0, slots := 0, locals := 25 })
abbrev mX7_copyFrom : MI := (yX7_copyFrom, cX7_copyFrom, 2, none, { frames := 1, cells := 0, slots := 0, locals := 40 })
abbrev mX7_sumOf : MI := (yX7_sumOf, cX7_sumOf, 3, some .long, { frames := 0, cells := 0, slots := 0, locals := 0 })
abbrev mX7_hasWeak : MI := (yX7_hasWeak, cX7_hasWeak, 4, some .boolean, { frames := 0, cells := 0, slots := 0, locals := 0 })
abbrev mX7_find : MI := (yX7_find, cX7_find, 6, some .int, { frames := 0, cells := 0, slots := 0, locals := 0 })
abbrev mX8_init : MI := (yX8_init, cX8_init, 1, none, { frames := 4, cells := 58, slots := 11195, locals := 86 })
abbrev mX8_write : MI := (yX8_write, cX8_write, 8, some .int, { frames := 3, cells := 0, slots := 0, locals := 74 })
abbrev mX8_again : MI := (yX8_again, cX8_again, 7, some .int, { frames := 3, cells := 0, slots := 0, locals := 63 })
abbrev mX8_trim : MI := (yX8_trim, cX8_trim, 6, some .int, { frames := 3, cells := 0, slots := 0, locals := 63 })
abbrev mX8_drop : MI := (yX8_drop, cX8_drop, 5, some .int, { frames := 3, cells := 0, slots := 0, locals := 69 })
abbrev mX8_same : MI := (yX8_same, cX8_same, 5, some .int, { frames := 3, cells := 0, slots := 0, locals := 70 })
abbrev mX8_at : MI := (yX8_at, cX8_at, 5, some .int, { frames := 3, cells := 0, slots := 0, locals := 63 })
abbrev mX8_size : MI := (yX8_size, cX8_size, 4, some .int, { frames := 2, cells := 0, slots := 0, locals := 41 })
abbrev mX8_node : MI := (yX8_node, cX8_node, 3, some .long, { frames := 1, cells := 0, slots := 0, locals := 21 })
abbrev mX8_begin : MI := (yX8_begin, cX8_begin, 5, some .int, { frames := 4, cells := 0, slots := 0, locals := 90 })
abbrev mX8_step : MI := (yX8_step, cX8_step, 3, some .int, { frames := 6, cells := 0, slots := 0, locals := 137 })
abbrev mX8_lose : MI := (yX8_lose, cX8_lose, 2, some .int, { frames := 2, cells := 0, slots := 0, locals := 44 })
abbrev mX8_cut : MI := (yX8_cut, cX8_cut, 1, some .int, { frames := 3, cells := 0, slots := 0, locals := 61 })
abbrev mX8_state : MI := (yX8_state, cX8_state, 2, some .int, { frames := 2, cells := 0, slots := 0, locals := 43 })
abbrev mX8_sent : MI := (yX8_sent, cX8_sent, 2, some .long, { frames := 1, cells := 0, slots := 0, locals := 21 })
abbrev mX8_built : MI := (yX8_built, cX8_built, 2, some .int, { frames := 2, cells := 0, slots := 0, locals := 42 })
abbrev mX8_sums : MI := (yX8_sums, cX8_sums, 3, some .long, { frames := 2, cells := 0, slots := 0, locals := 44 })
abbrev mX8_weak : MI := (yX8_weak, cX8_weak, 6, some .long, { frames := 3, cells := 0, slots := 0, locals := 63 })
abbrev mX8_isEnd : MI := (yX8_isEnd, cX8_isEnd, 1, some .boolean, { frames := 0, cells := 0, slots := 0, locals := 0 })
abbrev mX8_isFile : MI := (yX8_isFile, cX8_isFile, 1, some .boolean, { frames := 0, cells := 0, slots := 0, locals := 0 })
abbrev mX8_strong : MI := (yX8_strong, cX8_strong, 3, some .long, { frames := 0, cells := 0, slots := 0, locals := 0 })
abbrev mX8_side : MI := (yX8_side, cX8_side, 2, some (.object "RollingSync$Side"), { frames := 0, cells := 0, slots := 0, locals := 0 })
abbrev mX8_existing : MI := (yX8_existing, cX8_existing, 3, some (.object "RollingSync$Row"), { frames := 2, cells := 0, slots := 0, locals := 41 })
abbrev mX9_init : MI := (yX9_init, cX9_init, 2, none, { frames := 1, cells := 16, slots := 10622, locals := 20 })
abbrev mX9_greater : MI := (yX9_greater, cX9_greater, 2, some .int, { frames := 0, cells := 0, slots := 0, locals := 0 })
abbrev mX9_lesser : MI := (yX9_lesser, cX9_lesser, 2, some .int, { frames := 0, cells := 0, slots := 0, locals := 0 })
abbrev mX9_isFile : MI := (yX9_isFile, cX9_isFile, 2, some .boolean, { frames := 0, cells := 0, slots := 0, locals := 0 })
abbrev mX9_sizeOf : MI := (yX9_sizeOf, cX9_sizeOf, 2, some .int, { frames := 1, cells := 0, slots := 0, locals := 21 })
abbrev mX9_write : MI := (yX9_write, cX9_write, 9, some .int, { frames := 2, cells := 0, slots := 0, locals := 42 })
abbrev mX9_again : MI := (yX9_again, cX9_again, 7, some .int, { frames := 2, cells := 0, slots := 0, locals := 42 })
abbrev mX9_trim : MI := (yX9_trim, cX9_trim, 5, some .int, { frames := 1, cells := 0, slots := 0, locals := 21 })
abbrev mX9_drop : MI := (yX9_drop, cX9_drop, 4, some .int, { frames := 1, cells := 0, slots := 0, locals := 21 })
abbrev mX9_same : MI := (yX9_same, cX9_same, 6, some .int, { frames := 2, cells := 0, slots := 0, locals := 42 })
abbrev mX9_at : MI := (yX9_at, cX9_at, 4, some .int, { frames := 1, cells := 0, slots := 0, locals := 21 })
abbrev mX9_size : MI := (yX9_size, cX9_size, 3, some .int, { frames := 1, cells := 0, slots := 0, locals := 21 })
abbrev mX9_digest : MI := (yX9_digest, cX9_digest, 6, some .long, { frames := 0, cells := 0, slots := 0, locals := 0 })
abbrev mX9_strong : MI := (yX9_strong, cX9_strong, 6, some .long, { frames := 1, cells := 0, slots := 0, locals := 25 })
abbrev mX9_weakOf : MI := (yX9_weakOf, cX9_weakOf, 8, some .long, { frames := 0, cells := 0, slots := 0, locals := 0 })
abbrev mX9_weak : MI := (yX9_weak, cX9_weak, 5, some .long, { frames := 1, cells := 0, slots := 0, locals := 27 })
abbrev mX9_node : MI := (yX9_node, cX9_node, 5, some .long, { frames := 1, cells := 0, slots := 0, locals := 25 })
abbrev mX9_target : MI := (yX9_target, cX9_target, 1, some .int, { frames := 0, cells := 0, slots := 0, locals := 0 })
abbrev mX9_begin : MI := (yX9_begin, cX9_begin, 6, some .int, { frames := 0, cells := 0, slots := 0, locals := 0 })
abbrev mX9_step : MI := (yX9_step, cX9_step, 3, some .int, { frames := 6, cells := 0, slots := 0, locals := 139 })
abbrev mX9_steps : MI := (yX9_steps, cX9_steps, 1, none, { frames := 5, cells := 0, slots := 0, locals := 119 })
abbrev mX9_ends : MI := (yX9_ends, cX9_ends, 2, none, { frames := 1, cells := 0, slots := 0, locals := 20 })
abbrev mX9_isToLose : MI := (yX9_isToLose, cX9_isToLose, 4, some .boolean, { frames := 0, cells := 0, slots := 0, locals := 0 })
abbrev mX9_leastToDo : MI := (yX9_leastToDo, cX9_leastToDo, 2, some .int, { frames := 0, cells := 0, slots := 0, locals := 0 })
abbrev mX9_message : MI := (yX9_message, cX9_message, 4, none, { frames := 0, cells := 0, slots := 0, locals := 0 })
abbrev mX9_makes : MI := (yX9_makes, cX9_makes, 1, none, { frames := 4, cells := 0, slots := 0, locals := 99 })
abbrev mX9_makesSums : MI := (yX9_makesSums, cX9_makesSums, 3, none, { frames := 2, cells := 0, slots := 0, locals := 50 })
abbrev mX9_makesOfFile : MI := (yX9_makesOfFile, cX9_makesOfFile, 3, none, { frames := 3, cells := 0, slots := 0, locals := 77 })
abbrev mX9_look : MI := (yX9_look, cX9_look, 8, some .int, { frames := 2, cells := 0, slots := 0, locals := 50 })
abbrev mX9_comes : MI := (yX9_comes, cX9_comes, 2, none, { frames := 3, cells := 0, slots := 0, locals := 69 })
abbrev mX9_builds : MI := (yX9_builds, cX9_builds, 2, none, { frames := 0, cells := 0, slots := 0, locals := 0 })
abbrev mX9_nodeComes : MI := (yX9_nodeComes, cX9_nodeComes, 1, none, { frames := 2, cells := 0, slots := 0, locals := 49 })
abbrev mX9_sumsCome : MI := (yX9_sumsCome, cX9_sumsCome, 2, none, { frames := 0, cells := 0, slots := 0, locals := 0 })
abbrev mX9_endComes : MI := (yX9_endComes, cX9_endComes, 3, none, { frames := 1, cells := 0, slots := 0, locals := 25 })
abbrev mX9_lose : MI := (yX9_lose, cX9_lose, 3, some .int, { frames := 0, cells := 0, slots := 0, locals := 0 })
abbrev mX9_cut : MI := (yX9_cut, cX9_cut, 1, some .int, { frames := 0, cells := 0, slots := 0, locals := 0 })
abbrev mX9_state : MI := (yX9_state, cX9_state, 4, some .int, { frames := 0, cells := 0, slots := 0, locals := 0 })
abbrev mX9_sent : MI := (yX9_sent, cX9_sent, 2, some .long, { frames := 0, cells := 0, slots := 0, locals := 0 })
abbrev mX9_built : MI := (yX9_built, cX9_built, 2, some .int, { frames := 0, cells := 0, slots := 0, locals := 0 })
abbrev mX9_sums : MI := (yX9_sums, cX9_sums, 3, some .long, { frames := 0, cells := 0, slots := 0, locals := 0 })
abbrev mJ13_bitCount_95d88 : MI := (yJ13_bitCount_95d88, cJ13_bitCount_95d88, 2, some .int, { frames := 0, cells := 0, slots := 0, locals := 0 })
abbrev mJ9_max_7cf53 : MI := (yJ9_max_7cf53, cJ9_max_7cf53, 2, some .int, { frames := 0, cells := 0, slots := 0, locals := 0 })
abbrev mJ9_min_7cf53 : MI := (yJ9_min_7cf53, cJ9_min_7cf53, 2, some .int, { frames := 0, cells := 0, slots := 0, locals := 0 })
abbrev mL_law : MI := (yL_law, cL_law, 4, some .boolean, room_1)
theorem inM_X0 : ∀ w ∈ u_ws RX0 TX0 3, w ∈ mGood := mg_all _ [113, 115, 117] (by decide +kernel) (by decide +kernel)
theorem inM_X1 : ∀ w ∈ u_ws RX1 TX1 6, w ∈ mGood := mg_all _ [172, 174, 176, 178, 180, 182] (by decide +kernel) (by decide +kernel)
theorem inM_X2 : ∀ w ∈ u_ws RX2 TX2 17, w ∈ mGood := mg_all _ [247, 249, 251, 253, 255, 257, 259, 261, 263, 265, 267, 269, 271, 273, 275, 277, 279] (by decide +kernel) (by decide +kernel)
theorem inM_X3 : ∀ w ∈ u_ws RX3 TX3 2, w ∈ mGood := mg_all _ [67, 69] (by decide +kernel) (by decide +kernel)
theorem inM_X4 : ∀ w ∈ u_ws RX4 TX4 15, w ∈ mGood := mg_all _ [297, 299, 301, 303, 305, 307, 309, 311, 313, 315, 317, 319, 321, 323, 325] (by decide +kernel) (by decide +kernel)
theorem inM_X5 : ∀ w ∈ u_ws RX5 TX5 6, w ∈ mGood := mg_all _ [202, 204, 206, 208, 210, 212] (by decide +kernel) (by decide +kernel)
theorem inM_X6 : ∀ w ∈ u_ws RX6 TX6 3, w ∈ mGood := mg_all _ [97, 99, 101] (by decide +kernel) (by decide +kernel)
theorem inM_X7 : ∀ w ∈ u_ws RX7 TX7 5, w ∈ mGood := mg_all _ [145, 147, 149, 151, 153] (by decide +kernel) (by decide +kernel)
theorem inM_X8 : ∀ w ∈ u_ws RX8 TX8 4, w ∈ mGood := mg_all _ [332, 334, 336, 338] (by decide +kernel) (by decide +kernel)
theorem inM_X9 : ∀ w ∈ u_ws RX9 TX9 42, w ∈ mGood := mg_all _ [755, 757, 759, 761, 763, 765, 767, 769, 771, 773, 775, 777, 779, 781, 783, 785, 787, 789, 791, 793, 795, 797, 799, 801, 803, 805, 807, 809, 811, 813, 815, 817, 819, 821, 823, 825, 827, 829, 831, 833, 835, 837] (by decide +kernel) (by decide +kernel)
theorem oi_X0 : Cond.methodLink RX0 3 Lib.objectInit ∈ mGood := mg 109 (by decide +kernel) rfl
theorem fl_X0_9 : FL RX0 9 0 0 false := ⟨RX0, TX0, rfl, by decide, inM_X0, tyX0_ok, nmX0, rfl, rfl, Or.inl (mg 110 (by decide +kernel) rfl)⟩
theorem cn_J13_bitCount_95d88 : CN mJ13_bitCount_95d88 1 := ⟨mg 646 (by decide +kernel) rfl, mg 40 (by decide +kernel) rfl, by decide +kernel⟩
theorem lk_X0_15 : LS2 RX0 mJ13_bitCount_95d88 15 := ⟨mg 645 (by decide +kernel) rfl, Or.inl (mg 644 (by decide +kernel) rfl)⟩
theorem fl_X0_21 : FL RX0 21 0 1 false := ⟨RX0, TX0, rfl, by decide, inM_X0, tyX0_ok, nmX0, rfl, rfl, Or.inl (mg 111 (by decide +kernel) rfl)⟩
theorem fl_X0_24 : FL RX0 24 0 2 false := ⟨RX0, TX0, rfl, by decide, inM_X0, tyX0_ok, nmX0, rfl, rfl, Or.inl (mg 112 (by decide +kernel) rfl)⟩
theorem oi_X1 : Cond.methodLink RX1 3 Lib.objectInit ∈ mGood := mg 131 (by decide +kernel) rfl
theorem nw_X1_9 : NW RX1 9 3 := ⟨RX3, TX3, rfl, inM_X3, tyX3_ok, mg 132 (by decide +kernel) rfl, mg 57 (by decide +kernel) rfl, mg 30 (by decide +kernel) rfl, by decide⟩
theorem cn_X3_init : CN mX3_init 1 := ⟨mg 60 (by decide +kernel) rfl, mg 30 (by decide +kernel) rfl, by decide +kernel⟩
theorem lk_X1_11 : LI RX1 mX3_init 11 := ⟨rfl, rfl, mg 59 (by decide +kernel) rfl, Or.inl (mg 133 (by decide +kernel) rfl)⟩
theorem fl_X1_14 : FL RX1 14 1 0 true := ⟨RX1, TX1, rfl, by decide, inM_X1, tyX1_ok, nmX1, rfl, rfl, Or.inl (mg 156 (by decide +kernel) rfl)⟩
theorem ff_X1_14 : FF RX1 14 1 0 := ⟨RX1, TX1, rfl, by decide, inM_X1, tyX1_ok, nmX1, rfl, rfl, mg 156 (by decide +kernel) rfl⟩
theorem nw_X1_20 : NW RX1 20 7 := ⟨RX7, TX7, rfl, inM_X7, tyX7_ok, mg 134 (by decide +kernel) rfl, mg 135 (by decide +kernel) rfl, mg 35 (by decide +kernel) rfl, by decide⟩
theorem cn_X7_init : CN mX7_init 0 := ⟨mg 138 (by decide +kernel) rfl, mg 35 (by decide +kernel) rfl, by decide +kernel⟩
theorem lk_X1_22 : LI RX1 mX7_init 22 := ⟨rfl, rfl, mg 137 (by decide +kernel) rfl, Or.inr ⟨"RollingSync", mn 136 (by decide +kernel) rfl⟩⟩
theorem fl_X1_23 : FL RX1 23 1 1 true := ⟨RX1, TX1, rfl, by decide, inM_X1, tyX1_ok, nmX1, rfl, rfl, Or.inl (mg 159 (by decide +kernel) rfl)⟩
theorem ff_X1_23 : FF RX1 23 1 1 := ⟨RX1, TX1, rfl, by decide, inM_X1, tyX1_ok, nmX1, rfl, rfl, mg 159 (by decide +kernel) rfl⟩
theorem fl_X1_27 : FL RX1 27 1 2 false := ⟨RX1, TX1, rfl, by decide, inM_X1, tyX1_ok, nmX1, rfl, rfl, Or.inl (mg 162 (by decide +kernel) rfl)⟩
theorem fl_X1_31 : FL RX1 31 1 3 false := ⟨RX1, TX1, rfl, by decide, inM_X1, tyX1_ok, nmX1, rfl, rfl, Or.inl (mg 165 (by decide +kernel) rfl)⟩
theorem oi_X2 : Cond.methodLink RX2 3 Lib.objectInit ∈ mGood := mg 220 (by decide +kernel) rfl
theorem fl_X2_9 : FL RX2 9 2 0 true := ⟨RX2, TX2, rfl, by decide, inM_X2, tyX2_ok, nmX2, rfl, rfl, Or.inl (mg 223 (by decide +kernel) rfl)⟩
theorem ff_X2_9 : FF RX2 9 2 0 := ⟨RX2, TX2, rfl, by decide, inM_X2, tyX2_ok, nmX2, rfl, rfl, mg 223 (by decide +kernel) rfl⟩
theorem fl_X2_15 : FL RX2 15 2 1 true := ⟨RX2, TX2, rfl, by decide, inM_X2, tyX2_ok, nmX2, rfl, rfl, Or.inl (mg 224 (by decide +kernel) rfl)⟩
theorem ff_X2_15 : FF RX2 15 2 1 := ⟨RX2, TX2, rfl, by decide, inM_X2, tyX2_ok, nmX2, rfl, rfl, mg 224 (by decide +kernel) rfl⟩
theorem fl_X2_19 : FL RX2 19 2 2 true := ⟨RX2, TX2, rfl, by decide, inM_X2, tyX2_ok, nmX2, rfl, rfl, Or.inl (mg 225 (by decide +kernel) rfl)⟩
theorem ff_X2_19 : FF RX2 19 2 2 := ⟨RX2, TX2, rfl, by decide, inM_X2, tyX2_ok, nmX2, rfl, rfl, mg 225 (by decide +kernel) rfl⟩
theorem nw_X2_22 : NW RX2 22 3 := ⟨RX3, TX3, rfl, inM_X3, tyX3_ok, mg 221 (by decide +kernel) rfl, mg 57 (by decide +kernel) rfl, mg 30 (by decide +kernel) rfl, by decide⟩
theorem lk_X2_24 : LI RX2 mX3_init 24 := ⟨rfl, rfl, mg 59 (by decide +kernel) rfl, Or.inl (mg 222 (by decide +kernel) rfl)⟩
theorem fl_X2_27 : FL RX2 27 2 3 true := ⟨RX2, TX2, rfl, by decide, inM_X2, tyX2_ok, nmX2, rfl, rfl, Or.inl (mg 226 (by decide +kernel) rfl)⟩
theorem ff_X2_27 : FF RX2 27 2 3 := ⟨RX2, TX2, rfl, by decide, inM_X2, tyX2_ok, nmX2, rfl, rfl, mg 226 (by decide +kernel) rfl⟩
theorem fl_X2_31 : FL RX2 31 2 9 false := ⟨RX2, TX2, rfl, by decide, inM_X2, tyX2_ok, nmX2, rfl, rfl, Or.inl (mg 234 (by decide +kernel) rfl)⟩
theorem fl_X2_35 : FL RX2 35 2 4 false := ⟨RX2, TX2, rfl, by decide, inM_X2, tyX2_ok, nmX2, rfl, rfl, Or.inl (mg 228 (by decide +kernel) rfl)⟩
theorem fl_X2_39 : FL RX2 39 2 6 false := ⟨RX2, TX2, rfl, by decide, inM_X2, tyX2_ok, nmX2, rfl, rfl, Or.inl (mg 231 (by decide +kernel) rfl)⟩
theorem fl_X2_42 : FL RX2 42 2 7 false := ⟨RX2, TX2, rfl, by decide, inM_X2, tyX2_ok, nmX2, rfl, rfl, Or.inl (mg 232 (by decide +kernel) rfl)⟩
theorem fl_X2_45 : FL RX2 45 2 8 false := ⟨RX2, TX2, rfl, by decide, inM_X2, tyX2_ok, nmX2, rfl, rfl, Or.inl (mg 233 (by decide +kernel) rfl)⟩
theorem fl_X2_48 : FL RX2 48 2 5 false := ⟨RX2, TX2, rfl, by decide, inM_X2, tyX2_ok, nmX2, rfl, rfl, Or.inl (mg 229 (by decide +kernel) rfl)⟩
theorem cn_X2_putToWait : CN mX2_putToWait 1 := ⟨mg 465 (by decide +kernel) rfl, mg 37 (by decide +kernel) rfl, by decide +kernel⟩
theorem lk_X2_51 : LV RX2 mX2_putToWait 51 := ⟨mg 464 (by decide +kernel) rfl, mg 2 (by decide +kernel) rfl, Or.inl (mg 462 (by decide +kernel) rfl)⟩
theorem cn_X2_forgetBuilt : CN mX2_forgetBuilt 0 := ⟨mg 469 (by decide +kernel) rfl, mg 37 (by decide +kernel) rfl, by decide +kernel⟩
theorem lk_X2_54 : LV RX2 mX2_forgetBuilt 54 := ⟨mg 467 (by decide +kernel) rfl, mg 468 (by decide +kernel) rfl, Or.inl (mg 466 (by decide +kernel) rfl)⟩
theorem fl_X2_57 : FL RX2 57 2 12 false := ⟨RX2, TX2, rfl, by decide, inM_X2, tyX2_ok, nmX2, rfl, rfl, Or.inl (mg 237 (by decide +kernel) rfl)⟩
theorem fl_X2_60 : FL RX2 60 2 13 false := ⟨RX2, TX2, rfl, by decide, inM_X2, tyX2_ok, nmX2, rfl, rfl, Or.inl (mg 239 (by decide +kernel) rfl)⟩
theorem fl_X2_63 : FL RX2 63 2 14 false := ⟨RX2, TX2, rfl, by decide, inM_X2, tyX2_ok, nmX2, rfl, rfl, Or.inl (mg 241 (by decide +kernel) rfl)⟩
theorem fl_X2_66 : FL RX2 66 2 15 false := ⟨RX2, TX2, rfl, by decide, inM_X2, tyX2_ok, nmX2, rfl, rfl, Or.inl (mg 243 (by decide +kernel) rfl)⟩
theorem fl_X2_69 : FL RX2 69 2 16 false := ⟨RX2, TX2, rfl, by decide, inM_X2, tyX2_ok, nmX2, rfl, rfl, Or.inl (mg 245 (by decide +kernel) rfl)⟩
theorem cn_X2_leastToDo : CN mX2_leastToDo 0 := ⟨mg 545 (by decide +kernel) rfl, mg 37 (by decide +kernel) rfl, by decide +kernel⟩
theorem lk_X2_72 : LV RX2 mX2_leastToDo 72 := ⟨mg 544 (by decide +kernel) rfl, mg 6 (by decide +kernel) rfl, Or.inl (mg 542 (by decide +kernel) rfl)⟩
theorem cn_X1_become : CN mX1_become 2 := ⟨mg 474 (by decide +kernel) rfl, mg 34 (by decide +kernel) rfl, by decide +kernel⟩
theorem lk_X2_76 : LV RX2 mX1_become 76 := ⟨mg 472 (by decide +kernel) rfl, mg 473 (by decide +kernel) rfl, Or.inl (mg 541 (by decide +kernel) rfl)⟩
theorem fl_X2_82 : FL RX2 82 1 4 false := ⟨RX1, TX1, rfl, by decide, inM_X1, tyX1_ok, nmX1, rfl, rfl, Or.inl (mg 168 (by decide +kernel) rfl)⟩
theorem fl_X2_85 : FL RX2 85 2 10 false := ⟨RX2, TX2, rfl, by decide, inM_X2, tyX2_ok, nmX2, rfl, rfl, Or.inl (mg 235 (by decide +kernel) rfl)⟩
theorem fl_X2_88 : FL RX2 88 2 11 false := ⟨RX2, TX2, rfl, by decide, inM_X2, tyX2_ok, nmX2, rfl, rfl, Or.inl (mg 236 (by decide +kernel) rfl)⟩
theorem fl_X2_91 : FL RX2 91 1 1 true := ⟨RX1, TX1, rfl, by decide, inM_X1, tyX1_ok, nmX1, rfl, rfl, Or.inl (mg 160 (by decide +kernel) rfl)⟩
theorem cn_X6_existing : CN mX6_existing 1 := ⟨mg 360 (by decide +kernel) rfl, mg 29 (by decide +kernel) rfl, by decide +kernel⟩
theorem lk_X2_95 : LV RX2 mX6_existing 95 := ⟨mg 358 (by decide +kernel) rfl, mg 359 (by decide +kernel) rfl, Or.inl (mg 546 (by decide +kernel) rfl)⟩
theorem cn_X7_fill : CN mX7_fill 3 := ⟨mg 550 (by decide +kernel) rfl, mg 35 (by decide +kernel) rfl, by decide +kernel⟩
theorem lk_X2_101 : LV RX2 mX7_fill 101 := ⟨mg 548 (by decide +kernel) rfl, mg 549 (by decide +kernel) rfl, Or.inl (mg 547 (by decide +kernel) rfl)⟩
theorem cn_X7_count : CN mX7_count 0 := ⟨mg 558 (by decide +kernel) rfl, mg 35 (by decide +kernel) rfl, by decide +kernel⟩
theorem lk_X2_107 : LV RX2 mX7_count 107 := ⟨mg 556 (by decide +kernel) rfl, mg 557 (by decide +kernel) rfl, Or.inl (mg 555 (by decide +kernel) rfl)⟩
theorem cn_X6_digestAt : CN mX6_digestAt 1 := ⟨mg 441 (by decide +kernel) rfl, mg 29 (by decide +kernel) rfl, by decide +kernel⟩
theorem lk_X2_110 : LV RX2 mX6_digestAt 110 := ⟨mg 439 (by decide +kernel) rfl, mg 440 (by decide +kernel) rfl, Or.inl (mg 580 (by decide +kernel) rfl)⟩
theorem cn_X2_settle : CN mX2_settle 0 := ⟨mg 599 (by decide +kernel) rfl, mg 37 (by decide +kernel) rfl, by decide +kernel⟩
theorem lk_X2_114 : LV RX2 mX2_settle 114 := ⟨mg 598 (by decide +kernel) rfl, mg 9 (by decide +kernel) rfl, Or.inl (mg 596 (by decide +kernel) rfl)⟩
theorem cn_X6_remove : CN mX6_remove 1 := ⟨mg 412 (by decide +kernel) rfl, mg 29 (by decide +kernel) rfl, by decide +kernel⟩
theorem lk_X2_117 : LV RX2 mX6_remove 117 := ⟨mg 410 (by decide +kernel) rfl, mg 411 (by decide +kernel) rfl, Or.inl (mg 601 (by decide +kernel) rfl)⟩
theorem cn_X8_isFile : CN mX8_isFile 1 := ⟨mg 81 (by decide +kernel) rfl, mg 28 (by decide +kernel) rfl, by decide +kernel⟩
theorem lk_X2_120 : LS2 RX2 mX8_isFile 120 := ⟨mg 80 (by decide +kernel) rfl, Or.inr ⟨"RollingSync", mn 600 (by decide +kernel) rfl⟩⟩
theorem cn_X3_count : CN mX3_count 0 := ⟨mg 364 (by decide +kernel) rfl, mg 30 (by decide +kernel) rfl, by decide +kernel⟩
theorem lk_X2_124 : LV RX2 mX3_count 124 := ⟨mg 362 (by decide +kernel) rfl, mg 363 (by decide +kernel) rfl, Or.inl (mg 606 (by decide +kernel) rfl)⟩
theorem cn_X3_addAll : CN mX3_addAll 1 := ⟨mg 425 (by decide +kernel) rfl, mg 30 (by decide +kernel) rfl, by decide +kernel⟩
theorem lk_X2_125 : LV RX2 mX3_addAll 125 := ⟨mg 423 (by decide +kernel) rfl, mg 424 (by decide +kernel) rfl, Or.inl (mg 607 (by decide +kernel) rfl)⟩
theorem cn_X3_get : CN mX3_get 1 := ⟨mg 390 (by decide +kernel) rfl, mg 30 (by decide +kernel) rfl, by decide +kernel⟩
theorem lk_X2_129 : LV RX2 mX3_get 129 := ⟨mg 388 (by decide +kernel) rfl, mg 389 (by decide +kernel) rfl, Or.inl (mg 612 (by decide +kernel) rfl)⟩
theorem cn_X3_add : CN mX3_add 1 := ⟨mg 394 (by decide +kernel) rfl, mg 30 (by decide +kernel) rfl, by decide +kernel⟩
theorem lk_X2_133 : LV RX2 mX3_add 133 := ⟨mg 392 (by decide +kernel) rfl, mg 393 (by decide +kernel) rfl, Or.inl (mg 613 (by decide +kernel) rfl)⟩
theorem cn_X3_digestOf : CN mX3_digestOf 2 := ⟨mg 85 (by decide +kernel) rfl, mg 30 (by decide +kernel) rfl, by decide +kernel⟩
theorem lk_X2_136 : LV RX2 mX3_digestOf 136 := ⟨mg 83 (by decide +kernel) rfl, mg 84 (by decide +kernel) rfl, Or.inl (mg 618 (by decide +kernel) rfl)⟩
theorem cn_X6_replace : CN mX6_replace 2 := ⟨mg 421 (by decide +kernel) rfl, mg 29 (by decide +kernel) rfl, by decide +kernel⟩
theorem lk_X2_140 : LV RX2 mX6_replace 140 := ⟨mg 419 (by decide +kernel) rfl, mg 420 (by decide +kernel) rfl, Or.inl (mg 619 (by decide +kernel) rfl)⟩
theorem cn_J9_min_7cf53 : CN mJ9_min_7cf53 2 := ⟨mg 622 (by decide +kernel) rfl, mg 31 (by decide +kernel) rfl, by decide +kernel⟩
theorem lk_X2_144 : LS2 RX2 mJ9_min_7cf53 144 := ⟨mg 621 (by decide +kernel) rfl, Or.inl (mg 620 (by decide +kernel) rfl)⟩
theorem cn_X3_keep : CN mX3_keep 1 := ⟨mg 404 (by decide +kernel) rfl, mg 30 (by decide +kernel) rfl, by decide +kernel⟩
theorem lk_X2_150 : LV RX2 mX3_keep 150 := ⟨mg 402 (by decide +kernel) rfl, mg 403 (by decide +kernel) rfl, Or.inl (mg 470 (by decide +kernel) rfl)⟩
theorem oi_X3 : Cond.methodLink RX3 3 Lib.objectInit ∈ mGood := mg 61 (by decide +kernel) rfl
theorem cn_J9_max_7cf53 : CN mJ9_max_7cf53 2 := ⟨mg 64 (by decide +kernel) rfl, mg 31 (by decide +kernel) rfl, by decide +kernel⟩
theorem lk_X3_9 : LS2 RX3 mJ9_max_7cf53 9 := ⟨mg 63 (by decide +kernel) rfl, Or.inl (mg 62 (by decide +kernel) rfl)⟩
theorem fl_X3_15 : FL RX3 15 3 0 true := ⟨RX3, TX3, rfl, by decide, inM_X3, tyX3_ok, nmX3, rfl, rfl, Or.inl (mg 65 (by decide +kernel) rfl)⟩
theorem ff_X3_15 : FF RX3 15 3 0 := ⟨RX3, TX3, rfl, by decide, inM_X3, tyX3_ok, nmX3, rfl, rfl, mg 65 (by decide +kernel) rfl⟩
theorem fl_X3_21 : FL RX3 21 3 1 false := ⟨RX3, TX3, rfl, by decide, inM_X3, tyX3_ok, nmX3, rfl, rfl, Or.inl (mg 66 (by decide +kernel) rfl)⟩
theorem cn_X3_set : CN mX3_set 2 := ⟨mg 372 (by decide +kernel) rfl, mg 30 (by decide +kernel) rfl, by decide +kernel⟩
theorem lk_X3_25 : LV RX3 mX3_set 25 := ⟨mg 370 (by decide +kernel) rfl, mg 371 (by decide +kernel) rfl, Or.inl (mg 395 (by decide +kernel) rfl)⟩
theorem kl_X3_29 : Cond.constantLong RX3 29 (-3750763034362895579) ∈ mGood := mg 86 (by decide +kernel) rfl
theorem kl_X3_31 : Cond.constantLong RX3 31 (1099511628211) ∈ mGood := mg 87 (by decide +kernel) rfl
theorem kl_X3_33 : Cond.constantLong RX3 33 (65535) ∈ mGood := mg 518 (by decide +kernel) rfl
theorem oi_X4 : Cond.methodLink RX4 3 Lib.objectInit ∈ mGood := mg 125 (by decide +kernel) rfl
theorem nw_X4_9 : NW RX4 9 1 := ⟨RX1, TX1, rfl, inM_X1, tyX1_ok, mg 126 (by decide +kernel) rfl, mg 127 (by decide +kernel) rfl, mg 34 (by decide +kernel) rfl, by decide⟩
theorem cn_X1_init : CN mX1_init 0 := ⟨mg 130 (by decide +kernel) rfl, mg 34 (by decide +kernel) rfl, by decide +kernel⟩
theorem lk_X4_11 : LI RX4 mX1_init 11 := ⟨rfl, rfl, mg 129 (by decide +kernel) rfl, Or.inr ⟨"RollingSync", mn 128 (by decide +kernel) rfl⟩⟩
theorem fl_X4_12 : FL RX4 12 4 5 true := ⟨RX4, TX4, rfl, by decide, inM_X4, tyX4_ok, nmX4, rfl, rfl, Or.inl (mg 287 (by decide +kernel) rfl)⟩
theorem ff_X4_12 : FF RX4 12 4 5 := ⟨RX4, TX4, rfl, by decide, inM_X4, tyX4_ok, nmX4, rfl, rfl, mg 287 (by decide +kernel) rfl⟩
theorem fl_X4_18 : FL RX4 18 4 6 false := ⟨RX4, TX4, rfl, by decide, inM_X4, tyX4_ok, nmX4, rfl, rfl, Or.inl (mg 288 (by decide +kernel) rfl)⟩
theorem fl_X4_22 : FL RX4 22 4 14 false := ⟨RX4, TX4, rfl, by decide, inM_X4, tyX4_ok, nmX4, rfl, rfl, Or.inl (mg 296 (by decide +kernel) rfl)⟩
theorem fl_X4_25 : FL RX4 25 4 0 true := ⟨RX4, TX4, rfl, by decide, inM_X4, tyX4_ok, nmX4, rfl, rfl, Or.inl (mg 282 (by decide +kernel) rfl)⟩
theorem ff_X4_25 : FF RX4 25 4 0 := ⟨RX4, TX4, rfl, by decide, inM_X4, tyX4_ok, nmX4, rfl, rfl, mg 282 (by decide +kernel) rfl⟩
theorem fl_X4_29 : FL RX4 29 4 1 true := ⟨RX4, TX4, rfl, by decide, inM_X4, tyX4_ok, nmX4, rfl, rfl, Or.inl (mg 283 (by decide +kernel) rfl)⟩
theorem ff_X4_29 : FF RX4 29 4 1 := ⟨RX4, TX4, rfl, by decide, inM_X4, tyX4_ok, nmX4, rfl, rfl, mg 283 (by decide +kernel) rfl⟩
theorem fl_X4_32 : FL RX4 32 4 2 true := ⟨RX4, TX4, rfl, by decide, inM_X4, tyX4_ok, nmX4, rfl, rfl, Or.inl (mg 284 (by decide +kernel) rfl)⟩
theorem ff_X4_32 : FF RX4 32 4 2 := ⟨RX4, TX4, rfl, by decide, inM_X4, tyX4_ok, nmX4, rfl, rfl, mg 284 (by decide +kernel) rfl⟩
theorem nw_X4_36 : NW RX4 36 5 := ⟨RX5, TX5, rfl, inM_X5, tyX5_ok, mg 185 (by decide +kernel) rfl, mg 186 (by decide +kernel) rfl, mg 36 (by decide +kernel) rfl, by decide⟩
theorem cn_X5_init : CN mX5_init 1 := ⟨mg 189 (by decide +kernel) rfl, mg 36 (by decide +kernel) rfl, by decide +kernel⟩
theorem lk_X4_38 : LI RX4 mX5_init 38 := ⟨rfl, rfl, mg 188 (by decide +kernel) rfl, Or.inl (mg 187 (by decide +kernel) rfl)⟩
theorem fl_X4_41 : FL RX4 41 4 3 true := ⟨RX4, TX4, rfl, by decide, inM_X4, tyX4_ok, nmX4, rfl, rfl, Or.inl (mg 285 (by decide +kernel) rfl)⟩
theorem ff_X4_41 : FF RX4 41 4 3 := ⟨RX4, TX4, rfl, by decide, inM_X4, tyX4_ok, nmX4, rfl, rfl, mg 285 (by decide +kernel) rfl⟩
theorem nw_X4_45 : NW RX4 45 2 := ⟨RX2, TX2, rfl, inM_X2, tyX2_ok, mg 215 (by decide +kernel) rfl, mg 216 (by decide +kernel) rfl, mg 37 (by decide +kernel) rfl, by decide⟩
theorem cn_X2_init : CN mX2_init 1 := ⟨mg 219 (by decide +kernel) rfl, mg 37 (by decide +kernel) rfl, by decide +kernel⟩
theorem lk_X4_47 : LI RX4 mX2_init 47 := ⟨rfl, rfl, mg 218 (by decide +kernel) rfl, Or.inl (mg 217 (by decide +kernel) rfl)⟩
theorem fl_X4_48 : FL RX4 48 4 4 true := ⟨RX4, TX4, rfl, by decide, inM_X4, tyX4_ok, nmX4, rfl, rfl, Or.inl (mg 286 (by decide +kernel) rfl)⟩
theorem ff_X4_48 : FF RX4 48 4 4 := ⟨RX4, TX4, rfl, by decide, inM_X4, tyX4_ok, nmX4, rfl, rfl, mg 286 (by decide +kernel) rfl⟩
theorem fl_X4_52 : FL RX4 52 4 7 false := ⟨RX4, TX4, rfl, by decide, inM_X4, tyX4_ok, nmX4, rfl, rfl, Or.inl (mg 289 (by decide +kernel) rfl)⟩
theorem cn_X5_start : CN mX5_start 1 := ⟨mg 457 (by decide +kernel) rfl, mg 36 (by decide +kernel) rfl, by decide +kernel⟩
theorem lk_X4_55 : LV RX4 mX5_start 55 := ⟨mg 455 (by decide +kernel) rfl, mg 456 (by decide +kernel) rfl, Or.inl (mg 454 (by decide +kernel) rfl)⟩
theorem cn_X2_start : CN mX2_start 4 := ⟨mg 461 (by decide +kernel) rfl, mg 37 (by decide +kernel) rfl, by decide +kernel⟩
theorem lk_X4_58 : LV RX4 mX2_start 58 := ⟨mg 459 (by decide +kernel) rfl, mg 460 (by decide +kernel) rfl, Or.inl (mg 458 (by decide +kernel) rfl)⟩
theorem lk_X4_61 : LV RX4 mX1_become 61 := ⟨mg 472 (by decide +kernel) rfl, mg 473 (by decide +kernel) rfl, Or.inl (mg 471 (by decide +kernel) rfl)⟩
theorem fl_X4_65 : FL RX4 65 4 8 false := ⟨RX4, TX4, rfl, by decide, inM_X4, tyX4_ok, nmX4, rfl, rfl, Or.inl (mg 290 (by decide +kernel) rfl)⟩
theorem fl_X4_69 : FL RX4 69 4 9 false := ⟨RX4, TX4, rfl, by decide, inM_X4, tyX4_ok, nmX4, rfl, rfl, Or.inl (mg 291 (by decide +kernel) rfl)⟩
theorem fl_X4_72 : FL RX4 72 4 10 false := ⟨RX4, TX4, rfl, by decide, inM_X4, tyX4_ok, nmX4, rfl, rfl, Or.inl (mg 292 (by decide +kernel) rfl)⟩
theorem fl_X4_75 : FL RX4 75 4 11 false := ⟨RX4, TX4, rfl, by decide, inM_X4, tyX4_ok, nmX4, rfl, rfl, Or.inl (mg 293 (by decide +kernel) rfl)⟩
theorem fl_X4_78 : FL RX4 78 4 12 false := ⟨RX4, TX4, rfl, by decide, inM_X4, tyX4_ok, nmX4, rfl, rfl, Or.inl (mg 294 (by decide +kernel) rfl)⟩
theorem fl_X4_81 : FL RX4 81 4 13 false := ⟨RX4, TX4, rfl, by decide, inM_X4, tyX4_ok, nmX4, rfl, rfl, Or.inl (mg 295 (by decide +kernel) rfl)⟩
theorem lk_X4_84 : LV RX4 mX2_forgetBuilt 84 := ⟨mg 467 (by decide +kernel) rfl, mg 468 (by decide +kernel) rfl, Or.inl (mg 635 (by decide +kernel) rfl)⟩
theorem cn_X4_makeMessage : CN mX4_makeMessage 0 := ⟨mg 486 (by decide +kernel) rfl, mg 33 (by decide +kernel) rfl, by decide +kernel⟩
theorem lk_X4_87 : LV RX4 mX4_makeMessage 87 := ⟨mg 485 (by decide +kernel) rfl, mg 3 (by decide +kernel) rfl, Or.inl (mg 483 (by decide +kernel) rfl)⟩
theorem cn_X4_emit : CN mX4_emit 0 := ⟨mg 562 (by decide +kernel) rfl, mg 33 (by decide +kernel) rfl, by decide +kernel⟩
theorem lk_X4_90 : LV RX4 mX4_emit 90 := ⟨mg 561 (by decide +kernel) rfl, mg 7 (by decide +kernel) rfl, Or.inl (mg 559 (by decide +kernel) rfl)⟩
theorem cn_X4_takeMessage : CN mX4_takeMessage 0 := ⟨mg 575 (by decide +kernel) rfl, mg 33 (by decide +kernel) rfl, by decide +kernel⟩
theorem lk_X4_93 : LV RX4 mX4_takeMessage 93 := ⟨mg 574 (by decide +kernel) rfl, mg 8 (by decide +kernel) rfl, Or.inl (mg 572 (by decide +kernel) rfl)⟩
theorem cn_X4_finishIfNothingFollows : CN mX4_finishIfNothingFollows 0 := ⟨mg 626 (by decide +kernel) rfl, mg 33 (by decide +kernel) rfl, by decide +kernel⟩
theorem lk_X4_96 : LV RX4 mX4_finishIfNothingFollows 96 := ⟨mg 625 (by decide +kernel) rfl, mg 10 (by decide +kernel) rfl, Or.inl (mg 623 (by decide +kernel) rfl)⟩
theorem cn_X2_toDoCount : CN mX2_toDoCount 0 := ⟨mg 669 (by decide +kernel) rfl, mg 37 (by decide +kernel) rfl, by decide +kernel⟩
theorem lk_X4_99 : LV RX4 mX2_toDoCount 99 := ⟨mg 667 (by decide +kernel) rfl, mg 668 (by decide +kernel) rfl, Or.inl (mg 666 (by decide +kernel) rfl)⟩
theorem fl_X4_103 : FL RX4 103 2 12 false := ⟨RX2, TX2, rfl, by decide, inM_X2, tyX2_ok, nmX2, rfl, rfl, Or.inr ⟨"RollingSync", mn 238 (by decide +kernel) rfl⟩⟩
theorem fl_X4_106 : FL RX4 106 2 13 false := ⟨RX2, TX2, rfl, by decide, inM_X2, tyX2_ok, nmX2, rfl, rfl, Or.inr ⟨"RollingSync", mn 240 (by decide +kernel) rfl⟩⟩
theorem fl_X4_109 : FL RX4 109 2 14 false := ⟨RX2, TX2, rfl, by decide, inM_X2, tyX2_ok, nmX2, rfl, rfl, Or.inr ⟨"RollingSync", mn 242 (by decide +kernel) rfl⟩⟩
theorem fl_X4_112 : FL RX4 112 2 15 false := ⟨RX2, TX2, rfl, by decide, inM_X2, tyX2_ok, nmX2, rfl, rfl, Or.inr ⟨"RollingSync", mn 244 (by decide +kernel) rfl⟩⟩
theorem fl_X4_115 : FL RX4 115 2 16 false := ⟨RX2, TX2, rfl, by decide, inM_X2, tyX2_ok, nmX2, rfl, rfl, Or.inr ⟨"RollingSync", mn 246 (by decide +kernel) rfl⟩⟩
theorem fl_X4_118 : FL RX4 118 5 4 false := ⟨RX5, TX5, rfl, by decide, inM_X5, tyX5_ok, nmX5, rfl, rfl, Or.inr ⟨"RollingSync", mn 199 (by decide +kernel) rfl⟩⟩
theorem fl_X4_121 : FL RX4 121 5 5 false := ⟨RX5, TX5, rfl, by decide, inM_X5, tyX5_ok, nmX5, rfl, rfl, Or.inr ⟨"RollingSync", mn 201 (by decide +kernel) rfl⟩⟩
theorem fl_X4_124 : FL RX4 124 2 3 true := ⟨RX2, TX2, rfl, by decide, inM_X2, tyX2_ok, nmX2, rfl, rfl, Or.inr ⟨"RollingSync", mn 227 (by decide +kernel) rfl⟩⟩
theorem lk_X4_128 : LV RX4 mX3_count 128 := ⟨mg 362 (by decide +kernel) rfl, mg 363 (by decide +kernel) rfl, Or.inl (mg 670 (by decide +kernel) rfl)⟩
theorem fl_X4_133 : FL RX4 133 2 5 false := ⟨RX2, TX2, rfl, by decide, inM_X2, tyX2_ok, nmX2, rfl, rfl, Or.inr ⟨"RollingSync", mn 230 (by decide +kernel) rfl⟩⟩
theorem lk_X4_136 : LV RX4 mX3_get 136 := ⟨mg 388 (by decide +kernel) rfl, mg 389 (by decide +kernel) rfl, Or.inl (mg 688 (by decide +kernel) rfl)⟩
theorem fl_X4_140 : FL RX4 140 5 0 true := ⟨RX5, TX5, rfl, by decide, inM_X5, tyX5_ok, nmX5, rfl, rfl, Or.inr ⟨"RollingSync", mn 194 (by decide +kernel) rfl⟩⟩
theorem cn_X7_sumOf : CN mX7_sumOf 2 := ⟨mg 700 (by decide +kernel) rfl, mg 35 (by decide +kernel) rfl, by decide +kernel⟩
theorem lk_X4_144 : LV RX4 mX7_sumOf 144 := ⟨mg 698 (by decide +kernel) rfl, mg 699 (by decide +kernel) rfl, Or.inl (mg 697 (by decide +kernel) rfl)⟩
theorem fl_X4_150 : FL RX4 150 1 2 false := ⟨RX1, TX1, rfl, by decide, inM_X1, tyX1_ok, nmX1, rfl, rfl, Or.inl (mg 164 (by decide +kernel) rfl)⟩
theorem cn_X5_makeNode : CN mX5_makeNode 1 := ⟨mg 490 (by decide +kernel) rfl, mg 36 (by decide +kernel) rfl, by decide +kernel⟩
theorem lk_X4_153 : LV RX4 mX5_makeNode 153 := ⟨mg 488 (by decide +kernel) rfl, mg 489 (by decide +kernel) rfl, Or.inl (mg 487 (by decide +kernel) rfl)⟩
theorem cn_X5_makeNext : CN mX5_makeNext 1 := ⟨mg 496 (by decide +kernel) rfl, mg 36 (by decide +kernel) rfl, by decide +kernel⟩
theorem lk_X4_157 : LV RX4 mX5_makeNext 157 := ⟨mg 494 (by decide +kernel) rfl, mg 495 (by decide +kernel) rfl, Or.inl (mg 493 (by decide +kernel) rfl)⟩
theorem cn_X2_makeNext : CN mX2_makeNext 1 := ⟨mg 540 (by decide +kernel) rfl, mg 37 (by decide +kernel) rfl, by decide +kernel⟩
theorem lk_X4_160 : LV RX4 mX2_makeNext 160 := ⟨mg 538 (by decide +kernel) rfl, mg 539 (by decide +kernel) rfl, Or.inl (mg 537 (by decide +kernel) rfl)⟩
theorem fl_X4_161 : FL RX4 161 1 1 true := ⟨RX1, TX1, rfl, by decide, inM_X1, tyX1_ok, nmX1, rfl, rfl, Or.inl (mg 161 (by decide +kernel) rfl)⟩
theorem cn_X7_k : CN mX7_k 0 := ⟨mg 526 (by decide +kernel) rfl, mg 35 (by decide +kernel) rfl, by decide +kernel⟩
theorem lk_X4_162 : LV RX4 mX7_k 162 := ⟨mg 524 (by decide +kernel) rfl, mg 525 (by decide +kernel) rfl, Or.inl (mg 563 (by decide +kernel) rfl)⟩
theorem cn_X1_isByTarget : CN mX1_isByTarget 0 := ⟨mg 567 (by decide +kernel) rfl, mg 34 (by decide +kernel) rfl, by decide +kernel⟩
theorem lk_X4_165 : LV RX4 mX1_isByTarget 165 := ⟨mg 565 (by decide +kernel) rfl, mg 566 (by decide +kernel) rfl, Or.inl (mg 564 (by decide +kernel) rfl)⟩
theorem fl_X4_169 : FL RX4 169 1 3 false := ⟨RX1, TX1, rfl, by decide, inM_X1, tyX1_ok, nmX1, rfl, rfl, Or.inl (mg 166 (by decide +kernel) rfl)⟩
theorem cn_X0_carry : CN mX0_carry 2 := ⟨mg 571 (by decide +kernel) rfl, mg 32 (by decide +kernel) rfl, by decide +kernel⟩
theorem lk_X4_172 : LV RX4 mX0_carry 172 := ⟨mg 569 (by decide +kernel) rfl, mg 570 (by decide +kernel) rfl, Or.inl (mg 568 (by decide +kernel) rfl)⟩
theorem fl_X4_178 : FL RX4 178 1 4 false := ⟨RX1, TX1, rfl, by decide, inM_X1, tyX1_ok, nmX1, rfl, rfl, Or.inl (mg 169 (by decide +kernel) rfl)⟩
theorem fl_X4_181 : FL RX4 181 1 5 false := ⟨RX1, TX1, rfl, by decide, inM_X1, tyX1_ok, nmX1, rfl, rfl, Or.inl (mg 171 (by decide +kernel) rfl)⟩
theorem cn_X2_takeNode : CN mX2_takeNode 2 := ⟨mg 579 (by decide +kernel) rfl, mg 37 (by decide +kernel) rfl, by decide +kernel⟩
theorem lk_X4_185 : LV RX4 mX2_takeNode 185 := ⟨mg 577 (by decide +kernel) rfl, mg 578 (by decide +kernel) rfl, Or.inl (mg 576 (by decide +kernel) rfl)⟩
theorem cn_X5_takeSums : CN mX5_takeSums 2 := ⟨mg 584 (by decide +kernel) rfl, mg 36 (by decide +kernel) rfl, by decide +kernel⟩
theorem lk_X4_189 : LV RX4 mX5_takeSums 189 := ⟨mg 582 (by decide +kernel) rfl, mg 583 (by decide +kernel) rfl, Or.inl (mg 581 (by decide +kernel) rfl)⟩
theorem cn_X2_takeGone : CN mX2_takeGone 0 := ⟨mg 595 (by decide +kernel) rfl, mg 37 (by decide +kernel) rfl, by decide +kernel⟩
theorem lk_X4_193 : LV RX4 mX2_takeGone 193 := ⟨mg 593 (by decide +kernel) rfl, mg 594 (by decide +kernel) rfl, Or.inl (mg 592 (by decide +kernel) rfl)⟩
theorem fl_X4_196 : FL RX4 196 1 0 true := ⟨RX1, TX1, rfl, by decide, inM_X1, tyX1_ok, nmX1, rfl, rfl, Or.inl (mg 158 (by decide +kernel) rfl)⟩
theorem cn_X2_takeBytes : CN mX2_takeBytes 1 := ⟨mg 605 (by decide +kernel) rfl, mg 37 (by decide +kernel) rfl, by decide +kernel⟩
theorem lk_X4_199 : LV RX4 mX2_takeBytes 199 := ⟨mg 603 (by decide +kernel) rfl, mg 604 (by decide +kernel) rfl, Or.inl (mg 602 (by decide +kernel) rfl)⟩
theorem cn_X2_takeBlock : CN mX2_takeBlock 1 := ⟨mg 611 (by decide +kernel) rfl, mg 37 (by decide +kernel) rfl, by decide +kernel⟩
theorem lk_X4_203 : LV RX4 mX2_takeBlock 203 := ⟨mg 609 (by decide +kernel) rfl, mg 610 (by decide +kernel) rfl, Or.inl (mg 608 (by decide +kernel) rfl)⟩
theorem cn_X2_takeEnd : CN mX2_takeEnd 1 := ⟨mg 617 (by decide +kernel) rfl, mg 37 (by decide +kernel) rfl, by decide +kernel⟩
theorem lk_X4_207 : LV RX4 mX2_takeEnd 207 := ⟨mg 615 (by decide +kernel) rfl, mg 616 (by decide +kernel) rfl, Or.inl (mg 614 (by decide +kernel) rfl)⟩
theorem cn_X2_wantsMore : CN mX2_wantsMore 0 := ⟨mg 630 (by decide +kernel) rfl, mg 37 (by decide +kernel) rfl, by decide +kernel⟩
theorem lk_X4_211 : LV RX4 mX2_wantsMore 211 := ⟨mg 628 (by decide +kernel) rfl, mg 629 (by decide +kernel) rfl, Or.inl (mg 627 (by decide +kernel) rfl)⟩
theorem cn_X2_dropTold : CN mX2_dropTold 0 := ⟨mg 634 (by decide +kernel) rfl, mg 37 (by decide +kernel) rfl, by decide +kernel⟩
theorem lk_X4_214 : LV RX4 mX2_dropTold 214 := ⟨mg 632 (by decide +kernel) rfl, mg 633 (by decide +kernel) rfl, Or.inl (mg 631 (by decide +kernel) rfl)⟩
theorem oi_X5 : Cond.methodLink RX5 3 Lib.objectInit ∈ mGood := mg 190 (by decide +kernel) rfl
theorem nw_X5_9 : NW RX5 9 7 := ⟨RX7, TX7, rfl, inM_X7, tyX7_ok, mg 191 (by decide +kernel) rfl, mg 135 (by decide +kernel) rfl, mg 35 (by decide +kernel) rfl, by decide⟩
theorem lk_X5_11 : LI RX5 mX7_init 11 := ⟨rfl, rfl, mg 137 (by decide +kernel) rfl, Or.inr ⟨"RollingSync", mn 192 (by decide +kernel) rfl⟩⟩
theorem fl_X5_12 : FL RX5 12 5 0 true := ⟨RX5, TX5, rfl, by decide, inM_X5, tyX5_ok, nmX5, rfl, rfl, Or.inl (mg 193 (by decide +kernel) rfl)⟩
theorem ff_X5_12 : FF RX5 12 5 0 := ⟨RX5, TX5, rfl, by decide, inM_X5, tyX5_ok, nmX5, rfl, rfl, mg 193 (by decide +kernel) rfl⟩
theorem fl_X5_18 : FL RX5 18 5 1 false := ⟨RX5, TX5, rfl, by decide, inM_X5, tyX5_ok, nmX5, rfl, rfl, Or.inl (mg 195 (by decide +kernel) rfl)⟩
theorem fl_X5_22 : FL RX5 22 5 4 false := ⟨RX5, TX5, rfl, by decide, inM_X5, tyX5_ok, nmX5, rfl, rfl, Or.inl (mg 198 (by decide +kernel) rfl)⟩
theorem fl_X5_26 : FL RX5 26 5 5 false := ⟨RX5, TX5, rfl, by decide, inM_X5, tyX5_ok, nmX5, rfl, rfl, Or.inl (mg 200 (by decide +kernel) rfl)⟩
theorem cn_X7_copyFrom : CN mX7_copyFrom 1 := ⟨mg 588 (by decide +kernel) rfl, mg 35 (by decide +kernel) rfl, by decide +kernel⟩
theorem lk_X5_29 : LV RX5 mX7_copyFrom 29 := ⟨mg 586 (by decide +kernel) rfl, mg 587 (by decide +kernel) rfl, Or.inl (mg 585 (by decide +kernel) rfl)⟩
theorem fl_X5_33 : FL RX5 33 5 2 false := ⟨RX5, TX5, rfl, by decide, inM_X5, tyX5_ok, nmX5, rfl, rfl, Or.inl (mg 196 (by decide +kernel) rfl)⟩
theorem fl_X5_36 : FL RX5 36 5 3 false := ⟨RX5, TX5, rfl, by decide, inM_X5, tyX5_ok, nmX5, rfl, rfl, Or.inl (mg 197 (by decide +kernel) rfl)⟩
theorem lk_X5_39 : LV RX5 mX1_become 39 := ⟨mg 472 (by decide +kernel) rfl, mg 473 (by decide +kernel) rfl, Or.inl (mg 491 (by decide +kernel) rfl)⟩
theorem fl_X5_45 : FL RX5 45 1 4 false := ⟨RX1, TX1, rfl, by decide, inM_X1, tyX1_ok, nmX1, rfl, rfl, Or.inl (mg 167 (by decide +kernel) rfl)⟩
theorem lk_X5_48 : LV RX5 mX6_digestAt 48 := ⟨mg 439 (by decide +kernel) rfl, mg 440 (by decide +kernel) rfl, Or.inl (mg 492 (by decide +kernel) rfl)⟩
theorem fl_X5_54 : FL RX5 54 1 5 false := ⟨RX1, TX1, rfl, by decide, inM_X1, tyX1_ok, nmX1, rfl, rfl, Or.inl (mg 170 (by decide +kernel) rfl)⟩
theorem lk_X5_58 : LV RX5 mX6_existing 58 := ⟨mg 358 (by decide +kernel) rfl, mg 359 (by decide +kernel) rfl, Or.inl (mg 497 (by decide +kernel) rfl)⟩
theorem fl_X5_62 : FL RX5 62 1 2 false := ⟨RX1, TX1, rfl, by decide, inM_X1, tyX1_ok, nmX1, rfl, rfl, Or.inl (mg 163 (by decide +kernel) rfl)⟩
theorem lk_X5_65 : LV RX5 mX3_count 65 := ⟨mg 362 (by decide +kernel) rfl, mg 363 (by decide +kernel) rfl, Or.inl (mg 498 (by decide +kernel) rfl)⟩
theorem kl_X5_71 : Cond.constantLong RX5 71 (-3750763034362895579) ∈ mGood := mg 499 (by decide +kernel) rfl
theorem lk_X5_73 : LV RX5 mX3_digestOf 73 := ⟨mg 83 (by decide +kernel) rfl, mg 84 (by decide +kernel) rfl, Or.inl (mg 500 (by decide +kernel) rfl)⟩
theorem cn_X5_makePart : CN mX5_makePart 2 := ⟨mg 504 (by decide +kernel) rfl, mg 36 (by decide +kernel) rfl, by decide +kernel⟩
theorem lk_X5_77 : LV RX5 mX5_makePart 77 := ⟨mg 503 (by decide +kernel) rfl, mg 4 (by decide +kernel) rfl, Or.inl (mg 501 (by decide +kernel) rfl)⟩
theorem cn_X5_look : CN mX5_look 1 := ⟨mg 508 (by decide +kernel) rfl, mg 36 (by decide +kernel) rfl, by decide +kernel⟩
theorem lk_X5_81 : LV RX5 mX5_look 81 := ⟨mg 507 (by decide +kernel) rfl, mg 5 (by decide +kernel) rfl, Or.inl (mg 505 (by decide +kernel) rfl)⟩
theorem cn_X7_block : CN mX7_block 0 := ⟨mg 512 (by decide +kernel) rfl, mg 35 (by decide +kernel) rfl, by decide +kernel⟩
theorem lk_X5_85 : LV RX5 mX7_block 85 := ⟨mg 510 (by decide +kernel) rfl, mg 511 (by decide +kernel) rfl, Or.inl (mg 509 (by decide +kernel) rfl)⟩
theorem fl_X5_88 : FL RX5 88 1 0 true := ⟨RX1, TX1, rfl, by decide, inM_X1, tyX1_ok, nmX1, rfl, rfl, Or.inl (mg 157 (by decide +kernel) rfl)⟩
theorem lk_X5_92 : LV RX5 mX3_keep 92 := ⟨mg 402 (by decide +kernel) rfl, mg 403 (by decide +kernel) rfl, Or.inl (mg 534 (by decide +kernel) rfl)⟩
theorem lk_X5_96 : LV RX5 mX3_get 96 := ⟨mg 388 (by decide +kernel) rfl, mg 389 (by decide +kernel) rfl, Or.inl (mg 535 (by decide +kernel) rfl)⟩
theorem lk_X5_100 : LV RX5 mX3_add 100 := ⟨mg 392 (by decide +kernel) rfl, mg 393 (by decide +kernel) rfl, Or.inl (mg 536 (by decide +kernel) rfl)⟩
theorem cn_X3_holds : CN mX3_holds 2 := ⟨mg 385 (by decide +kernel) rfl, mg 30 (by decide +kernel) rfl, by decide +kernel⟩
theorem lk_X5_103 : LV RX5 mX3_holds 103 := ⟨mg 383 (by decide +kernel) rfl, mg 384 (by decide +kernel) rfl, Or.inl (mg 513 (by decide +kernel) rfl)⟩
theorem cn_X3_weakOf : CN mX3_weakOf 2 := ⟨mg 517 (by decide +kernel) rfl, mg 30 (by decide +kernel) rfl, by decide +kernel⟩
theorem lk_X5_107 : LV RX5 mX3_weakOf 107 := ⟨mg 515 (by decide +kernel) rfl, mg 516 (by decide +kernel) rfl, Or.inl (mg 514 (by decide +kernel) rfl)⟩
theorem cn_X7_hasWeak : CN mX7_hasWeak 1 := ⟨mg 522 (by decide +kernel) rfl, mg 35 (by decide +kernel) rfl, by decide +kernel⟩
theorem lk_X5_110 : LV RX5 mX7_hasWeak 110 := ⟨mg 520 (by decide +kernel) rfl, mg 521 (by decide +kernel) rfl, Or.inl (mg 519 (by decide +kernel) rfl)⟩
theorem lk_X5_114 : LV RX5 mX7_k 114 := ⟨mg 524 (by decide +kernel) rfl, mg 525 (by decide +kernel) rfl, Or.inl (mg 523 (by decide +kernel) rfl)⟩
theorem cn_X8_strong : CN mX8_strong 2 := ⟨mg 529 (by decide +kernel) rfl, mg 28 (by decide +kernel) rfl, by decide +kernel⟩
theorem lk_X5_117 : LS2 RX5 mX8_strong 117 := ⟨mg 528 (by decide +kernel) rfl, Or.inr ⟨"RollingSync", mn 527 (by decide +kernel) rfl⟩⟩
theorem cn_X7_find : CN mX7_find 2 := ⟨mg 533 (by decide +kernel) rfl, mg 35 (by decide +kernel) rfl, by decide +kernel⟩
theorem lk_X5_121 : LV RX5 mX7_find 121 := ⟨mg 531 (by decide +kernel) rfl, mg 532 (by decide +kernel) rfl, Or.inl (mg 530 (by decide +kernel) rfl)⟩
theorem oi_X6 : Cond.methodLink RX6 3 Lib.objectInit ∈ mGood := mg 54 (by decide +kernel) rfl
theorem al_X6_9 : Cond.classLink RX6 9 RX3 ∈ mGood := mg 55 (by decide +kernel) rfl
theorem fl_X6_11 : FL RX6 11 6 0 true := ⟨RX6, TX6, rfl, by decide, inM_X6, tyX6_ok, nmX6, rfl, rfl, Or.inl (mg 94 (by decide +kernel) rfl)⟩
theorem ff_X6_11 : FF RX6 11 6 0 := ⟨RX6, TX6, rfl, by decide, inM_X6, tyX6_ok, nmX6, rfl, rfl, mg 94 (by decide +kernel) rfl⟩
theorem fl_X6_17 : FL RX6 17 6 1 true := ⟨RX6, TX6, rfl, by decide, inM_X6, tyX6_ok, nmX6, rfl, rfl, Or.inl (mg 95 (by decide +kernel) rfl)⟩
theorem ff_X6_17 : FF RX6 17 6 1 := ⟨RX6, TX6, rfl, by decide, inM_X6, tyX6_ok, nmX6, rfl, rfl, mg 95 (by decide +kernel) rfl⟩
theorem fl_X6_21 : FL RX6 21 6 2 true := ⟨RX6, TX6, rfl, by decide, inM_X6, tyX6_ok, nmX6, rfl, rfl, Or.inl (mg 96 (by decide +kernel) rfl)⟩
theorem ff_X6_21 : FF RX6 21 6 2 := ⟨RX6, TX6, rfl, by decide, inM_X6, tyX6_ok, nmX6, rfl, rfl, mg 96 (by decide +kernel) rfl⟩
theorem nw_X6_9 : NW RX6 9 3 := ⟨RX3, TX3, rfl, inM_X3, tyX3_ok, mg 55 (by decide +kernel) rfl, mg 57 (by decide +kernel) rfl, mg 30 (by decide +kernel) rfl, by decide⟩
theorem lk_X6_25 : LI RX6 mX3_init 25 := ⟨rfl, rfl, mg 59 (by decide +kernel) rfl, Or.inl (mg 58 (by decide +kernel) rfl)⟩
theorem cn_X6_refresh : CN mX6_refresh 1 := ⟨mg 78 (by decide +kernel) rfl, mg 29 (by decide +kernel) rfl, by decide +kernel⟩
theorem lk_X6_28 : LV RX6 mX6_refresh 28 := ⟨mg 76 (by decide +kernel) rfl, mg 77 (by decide +kernel) rfl, Or.inl (mg 75 (by decide +kernel) rfl)⟩
theorem lk_X6_31 : LS2 RX6 mX8_isFile 31 := ⟨mg 80 (by decide +kernel) rfl, Or.inr ⟨"RollingSync", mn 79 (by decide +kernel) rfl⟩⟩
theorem lk_X6_35 : LV RX6 mX6_existing 35 := ⟨mg 358 (by decide +kernel) rfl, mg 359 (by decide +kernel) rfl, Or.inl (mg 357 (by decide +kernel) rfl)⟩
theorem lk_X6_39 : LV RX6 mX3_count 39 := ⟨mg 362 (by decide +kernel) rfl, mg 363 (by decide +kernel) rfl, Or.inl (mg 361 (by decide +kernel) rfl)⟩
theorem lk_X6_43 : LV RX6 mX3_set 43 := ⟨mg 370 (by decide +kernel) rfl, mg 371 (by decide +kernel) rfl, Or.inl (mg 369 (by decide +kernel) rfl)⟩
theorem lk_X6_47 : LV RX6 mX3_keep 47 := ⟨mg 402 (by decide +kernel) rfl, mg 403 (by decide +kernel) rfl, Or.inl (mg 413 (by decide +kernel) rfl)⟩
theorem lk_X6_50 : LV RX6 mX3_addAll 50 := ⟨mg 423 (by decide +kernel) rfl, mg 424 (by decide +kernel) rfl, Or.inl (mg 422 (by decide +kernel) rfl)⟩
theorem lk_X6_54 : LV RX6 mX3_digestOf 54 := ⟨mg 83 (by decide +kernel) rfl, mg 84 (by decide +kernel) rfl, Or.inl (mg 82 (by decide +kernel) rfl)⟩
theorem kl_X6_58 : Cond.constantLong RX6 58 (-3750763034362895579) ∈ mGood := mg 88 (by decide +kernel) rfl
theorem cn_X6_mixed : CN mX6_mixed 2 := ⟨mg 91 (by decide +kernel) rfl, mg 29 (by decide +kernel) rfl, by decide +kernel⟩
theorem lk_X6_60 : LS2 RX6 mX6_mixed 60 := ⟨mg 90 (by decide +kernel) rfl, Or.inl (mg 89 (by decide +kernel) rfl)⟩
theorem kl_X6_64 : Cond.constantLong RX6 64 (255) ∈ mGood := mg 92 (by decide +kernel) rfl
theorem kl_X6_66 : Cond.constantLong RX6 66 (1099511628211) ∈ mGood := mg 93 (by decide +kernel) rfl
theorem oi_X7 : Cond.methodLink RX7 3 Lib.objectInit ∈ mGood := mg 139 (by decide +kernel) rfl
theorem fl_X7_9 : FL RX7 9 7 0 true := ⟨RX7, TX7, rfl, by decide, inM_X7, tyX7_ok, nmX7, rfl, rfl, Or.inl (mg 140 (by decide +kernel) rfl)⟩
theorem ff_X7_9 : FF RX7 9 7 0 := ⟨RX7, TX7, rfl, by decide, inM_X7, tyX7_ok, nmX7, rfl, rfl, mg 140 (by decide +kernel) rfl⟩
theorem fl_X7_15 : FL RX7 15 7 1 true := ⟨RX7, TX7, rfl, by decide, inM_X7, tyX7_ok, nmX7, rfl, rfl, Or.inl (mg 141 (by decide +kernel) rfl)⟩
theorem ff_X7_15 : FF RX7 15 7 1 := ⟨RX7, TX7, rfl, by decide, inM_X7, tyX7_ok, nmX7, rfl, rfl, mg 141 (by decide +kernel) rfl⟩
theorem fl_X7_18 : FL RX7 18 7 2 false := ⟨RX7, TX7, rfl, by decide, inM_X7, tyX7_ok, nmX7, rfl, rfl, Or.inl (mg 142 (by decide +kernel) rfl)⟩
theorem fl_X7_22 : FL RX7 22 7 3 false := ⟨RX7, TX7, rfl, by decide, inM_X7, tyX7_ok, nmX7, rfl, rfl, Or.inl (mg 143 (by decide +kernel) rfl)⟩
theorem fl_X7_25 : FL RX7 25 7 4 false := ⟨RX7, TX7, rfl, by decide, inM_X7, tyX7_ok, nmX7, rfl, rfl, Or.inl (mg 144 (by decide +kernel) rfl)⟩
theorem lk_X7_28 : LV RX7 mX3_holds 28 := ⟨mg 383 (by decide +kernel) rfl, mg 384 (by decide +kernel) rfl, Or.inl (mg 551 (by decide +kernel) rfl)⟩
theorem lk_X7_34 : LV RX7 mX3_weakOf 34 := ⟨mg 515 (by decide +kernel) rfl, mg 516 (by decide +kernel) rfl, Or.inl (mg 552 (by decide +kernel) rfl)⟩
theorem lk_X7_38 : LV RX7 mX3_digestOf 38 := ⟨mg 83 (by decide +kernel) rfl, mg 84 (by decide +kernel) rfl, Or.inl (mg 553 (by decide +kernel) rfl)⟩
theorem lk_X7_41 : LS2 RX7 mX8_strong 41 := ⟨mg 528 (by decide +kernel) rfl, Or.inr ⟨"RollingSync", mn 554 (by decide +kernel) rfl⟩⟩
theorem ac_X7_45 : Cond.methodLink RX7 45 arraycopyName ∈ mGood := mg 589 (by decide +kernel) rfl
theorem kl_X7_51 : Cond.constantLong RX7 51 (-1) ∈ mGood := mg 701 (by decide +kernel) rfl
theorem oi_X8 : Cond.methodLink RX8 3 Lib.objectInit ∈ mGood := mg 46 (by decide +kernel) rfl
theorem nw_X8_9 : NW RX8 9 6 := ⟨RX6, TX6, rfl, inM_X6, tyX6_ok, mg 49 (by decide +kernel) rfl, mg 50 (by decide +kernel) rfl, mg 29 (by decide +kernel) rfl, by decide⟩
theorem cn_X6_init : CN mX6_init 0 := ⟨mg 53 (by decide +kernel) rfl, mg 29 (by decide +kernel) rfl, by decide +kernel⟩
theorem lk_X8_11 : LI RX8 mX6_init 11 := ⟨rfl, rfl, mg 52 (by decide +kernel) rfl, Or.inl (mg 51 (by decide +kernel) rfl)⟩
theorem fl_X8_12 : FL RX8 12 8 0 true := ⟨RX8, TX8, rfl, by decide, inM_X8, tyX8_ok, nmX8, rfl, rfl, Or.inl (mg 328 (by decide +kernel) rfl)⟩
theorem ff_X8_12 : FF RX8 12 8 0 := ⟨RX8, TX8, rfl, by decide, inM_X8, tyX8_ok, nmX8, rfl, rfl, mg 328 (by decide +kernel) rfl⟩
theorem fl_X8_16 : FL RX8 16 8 1 true := ⟨RX8, TX8, rfl, by decide, inM_X8, tyX8_ok, nmX8, rfl, rfl, Or.inl (mg 329 (by decide +kernel) rfl)⟩
theorem ff_X8_16 : FF RX8 16 8 1 := ⟨RX8, TX8, rfl, by decide, inM_X8, tyX8_ok, nmX8, rfl, rfl, mg 329 (by decide +kernel) rfl⟩
theorem nw_X8_19 : NW RX8 19 0 := ⟨RX0, TX0, rfl, inM_X0, tyX0_ok, mg 104 (by decide +kernel) rfl, mg 105 (by decide +kernel) rfl, mg 32 (by decide +kernel) rfl, by decide⟩
theorem cn_X0_init : CN mX0_init 0 := ⟨mg 108 (by decide +kernel) rfl, mg 32 (by decide +kernel) rfl, by decide +kernel⟩
theorem lk_X8_21 : LI RX8 mX0_init 21 := ⟨rfl, rfl, mg 107 (by decide +kernel) rfl, Or.inr ⟨"RollingSync", mn 106 (by decide +kernel) rfl⟩⟩
theorem fl_X8_22 : FL RX8 22 8 2 true := ⟨RX8, TX8, rfl, by decide, inM_X8, tyX8_ok, nmX8, rfl, rfl, Or.inl (mg 330 (by decide +kernel) rfl)⟩
theorem ff_X8_22 : FF RX8 22 8 2 := ⟨RX8, TX8, rfl, by decide, inM_X8, tyX8_ok, nmX8, rfl, rfl, mg 330 (by decide +kernel) rfl⟩
theorem nw_X8_26 : NW RX8 26 4 := ⟨RX4, TX4, rfl, inM_X4, tyX4_ok, mg 120 (by decide +kernel) rfl, mg 121 (by decide +kernel) rfl, mg 33 (by decide +kernel) rfl, by decide⟩
theorem cn_X4_init : CN mX4_init 3 := ⟨mg 124 (by decide +kernel) rfl, mg 33 (by decide +kernel) rfl, by decide +kernel⟩
theorem lk_X8_28 : LI RX8 mX4_init 28 := ⟨rfl, rfl, mg 123 (by decide +kernel) rfl, Or.inl (mg 122 (by decide +kernel) rfl)⟩
theorem fl_X8_31 : FL RX8 31 8 3 true := ⟨RX8, TX8, rfl, by decide, inM_X8, tyX8_ok, nmX8, rfl, rfl, Or.inl (mg 331 (by decide +kernel) rfl)⟩
theorem ff_X8_31 : FF RX8 31 8 3 := ⟨RX8, TX8, rfl, by decide, inM_X8, tyX8_ok, nmX8, rfl, rfl, mg 331 (by decide +kernel) rfl⟩
theorem cn_X8_isEnd : CN mX8_isEnd 1 := ⟨mg 347 (by decide +kernel) rfl, mg 28 (by decide +kernel) rfl, by decide +kernel⟩
theorem lk_X8_35 : LS2 RX8 mX8_isEnd 35 := ⟨mg 346 (by decide +kernel) rfl, Or.inl (mg 345 (by decide +kernel) rfl)⟩
theorem lk_X8_39 : LS2 RX8 mX8_isFile 39 := ⟨mg 80 (by decide +kernel) rfl, Or.inl (mg 348 (by decide +kernel) rfl)⟩
theorem cn_X8_side : CN mX8_side 1 := ⟨mg 352 (by decide +kernel) rfl, mg 28 (by decide +kernel) rfl, by decide +kernel⟩
theorem lk_X8_42 : LV RX8 mX8_side 42 := ⟨mg 351 (by decide +kernel) rfl, mg 0 (by decide +kernel) rfl, Or.inl (mg 349 (by decide +kernel) rfl)⟩
theorem cn_X6_countOf : CN mX6_countOf 1 := ⟨mg 356 (by decide +kernel) rfl, mg 29 (by decide +kernel) rfl, by decide +kernel⟩
theorem lk_X8_46 : LV RX8 mX6_countOf 46 := ⟨mg 354 (by decide +kernel) rfl, mg 355 (by decide +kernel) rfl, Or.inl (mg 353 (by decide +kernel) rfl)⟩
theorem cn_X6_put : CN mX6_put 4 := ⟨mg 368 (by decide +kernel) rfl, mg 29 (by decide +kernel) rfl, by decide +kernel⟩
theorem lk_X8_50 : LV RX8 mX6_put 50 := ⟨mg 366 (by decide +kernel) rfl, mg 367 (by decide +kernel) rfl, Or.inl (mg 365 (by decide +kernel) rfl)⟩
theorem cn_X8_existing : CN mX8_existing 2 := ⟨mg 380 (by decide +kernel) rfl, mg 28 (by decide +kernel) rfl, by decide +kernel⟩
theorem lk_X8_54 : LV RX8 mX8_existing 54 := ⟨mg 379 (by decide +kernel) rfl, mg 1 (by decide +kernel) rfl, Or.inl (mg 377 (by decide +kernel) rfl)⟩
theorem lk_X8_58 : LV RX8 mX3_holds 58 := ⟨mg 383 (by decide +kernel) rfl, mg 384 (by decide +kernel) rfl, Or.inl (mg 382 (by decide +kernel) rfl)⟩
theorem lk_X8_64 : LV RX8 mX3_count 64 := ⟨mg 362 (by decide +kernel) rfl, mg 363 (by decide +kernel) rfl, Or.inl (mg 386 (by decide +kernel) rfl)⟩
theorem lk_X8_68 : LV RX8 mX3_get 68 := ⟨mg 388 (by decide +kernel) rfl, mg 389 (by decide +kernel) rfl, Or.inl (mg 387 (by decide +kernel) rfl)⟩
theorem lk_X8_71 : LV RX8 mX3_add 71 := ⟨mg 392 (by decide +kernel) rfl, mg 393 (by decide +kernel) rfl, Or.inl (mg 391 (by decide +kernel) rfl)⟩
theorem lk_X8_75 : LV RX8 mX6_refresh 75 := ⟨mg 76 (by decide +kernel) rfl, mg 77 (by decide +kernel) rfl, Or.inl (mg 396 (by decide +kernel) rfl)⟩
theorem lk_X8_78 : LV RX8 mX3_keep 78 := ⟨mg 402 (by decide +kernel) rfl, mg 403 (by decide +kernel) rfl, Or.inl (mg 401 (by decide +kernel) rfl)⟩
theorem lk_X8_81 : LV RX8 mX6_remove 81 := ⟨mg 410 (by decide +kernel) rfl, mg 411 (by decide +kernel) rfl, Or.inl (mg 409 (by decide +kernel) rfl)⟩
theorem lk_X8_84 : LV RX8 mX6_existing 84 := ⟨mg 358 (by decide +kernel) rfl, mg 359 (by decide +kernel) rfl, Or.inl (mg 381 (by decide +kernel) rfl)⟩
theorem lk_X8_87 : LV RX8 mX6_replace 87 := ⟨mg 419 (by decide +kernel) rfl, mg 420 (by decide +kernel) rfl, Or.inl (mg 418 (by decide +kernel) rfl)⟩
theorem lk_X8_91 : LV RX8 mX6_digestAt 91 := ⟨mg 439 (by decide +kernel) rfl, mg 440 (by decide +kernel) rfl, Or.inl (mg 438 (by decide +kernel) rfl)⟩
theorem cn_X4_goes : CN mX4_goes 0 := ⟨mg 449 (by decide +kernel) rfl, mg 33 (by decide +kernel) rfl, by decide +kernel⟩
theorem lk_X8_95 : LV RX8 mX4_goes 95 := ⟨mg 447 (by decide +kernel) rfl, mg 448 (by decide +kernel) rfl, Or.inl (mg 446 (by decide +kernel) rfl)⟩
theorem cn_X4_start : CN mX4_start 4 := ⟨mg 453 (by decide +kernel) rfl, mg 33 (by decide +kernel) rfl, by decide +kernel⟩
theorem lk_X8_99 : LV RX8 mX4_start 99 := ⟨mg 451 (by decide +kernel) rfl, mg 452 (by decide +kernel) rfl, Or.inl (mg 450 (by decide +kernel) rfl)⟩
theorem cn_X4_oneStep : CN mX4_oneStep 0 := ⟨mg 482 (by decide +kernel) rfl, mg 33 (by decide +kernel) rfl, by decide +kernel⟩
theorem lk_X8_103 : LV RX8 mX4_oneStep 103 := ⟨mg 480 (by decide +kernel) rfl, mg 481 (by decide +kernel) rfl, Or.inl (mg 479 (by decide +kernel) rfl)⟩
theorem cn_X0_tellLoss : CN mX0_tellLoss 1 := ⟨mg 643 (by decide +kernel) rfl, mg 32 (by decide +kernel) rfl, by decide +kernel⟩
theorem lk_X8_106 : LV RX8 mX0_tellLoss 106 := ⟨mg 641 (by decide +kernel) rfl, mg 642 (by decide +kernel) rfl, Or.inl (mg 640 (by decide +kernel) rfl)⟩
theorem cn_X4_stop : CN mX4_stop 0 := ⟨mg 657 (by decide +kernel) rfl, mg 33 (by decide +kernel) rfl, by decide +kernel⟩
theorem lk_X8_109 : LV RX8 mX4_stop 109 := ⟨mg 655 (by decide +kernel) rfl, mg 656 (by decide +kernel) rfl, Or.inl (mg 654 (by decide +kernel) rfl)⟩
theorem cn_X4_tell : CN mX4_tell 1 := ⟨mg 665 (by decide +kernel) rfl, mg 33 (by decide +kernel) rfl, by decide +kernel⟩
theorem lk_X8_112 : LV RX8 mX4_tell 112 := ⟨mg 663 (by decide +kernel) rfl, mg 664 (by decide +kernel) rfl, Or.inl (mg 662 (by decide +kernel) rfl)⟩
theorem cn_X0_bytesBy : CN mX0_bytesBy 1 := ⟨mg 678 (by decide +kernel) rfl, mg 32 (by decide +kernel) rfl, by decide +kernel⟩
theorem lk_X8_115 : LV RX8 mX0_bytesBy 115 := ⟨mg 676 (by decide +kernel) rfl, mg 677 (by decide +kernel) rfl, Or.inl (mg 675 (by decide +kernel) rfl)⟩
theorem kl_X8_118 : Cond.constantLong RX8 118 (-1) ∈ mGood := mg 679 (by decide +kernel) rfl
theorem cn_X4_builtByte : CN mX4_builtByte 1 := ⟨mg 687 (by decide +kernel) rfl, mg 33 (by decide +kernel) rfl, by decide +kernel⟩
theorem lk_X8_120 : LV RX8 mX4_builtByte 120 := ⟨mg 685 (by decide +kernel) rfl, mg 686 (by decide +kernel) rfl, Or.inl (mg 684 (by decide +kernel) rfl)⟩
theorem cn_X4_sumOf : CN mX4_sumOf 2 := ⟨mg 696 (by decide +kernel) rfl, mg 33 (by decide +kernel) rfl, by decide +kernel⟩
theorem lk_X8_123 : LV RX8 mX4_sumOf 123 := ⟨mg 694 (by decide +kernel) rfl, mg 695 (by decide +kernel) rfl, Or.inl (mg 693 (by decide +kernel) rfl)⟩
theorem lk_X8_127 : LV RX8 mX3_weakOf 127 := ⟨mg 515 (by decide +kernel) rfl, mg 516 (by decide +kernel) rfl, Or.inl (mg 706 (by decide +kernel) rfl)⟩
theorem oi_X9 : Cond.methodLink RX9 1 Lib.objectInit ∈ mGood := mg 712 (by decide +kernel) rfl
theorem fl_X9_7 : FL RX9 7 9 0 true := ⟨RX9, TX9, rfl, by decide, inM_X9, tyX9_ok, nmX9, rfl, rfl, Or.inl (mg 713 (by decide +kernel) rfl)⟩
theorem ff_X9_7 : FF RX9 7 9 0 := ⟨RX9, TX9, rfl, by decide, inM_X9, tyX9_ok, nmX9, rfl, rfl, mg 713 (by decide +kernel) rfl⟩
theorem fl_X9_13 : FL RX9 13 9 1 true := ⟨RX9, TX9, rfl, by decide, inM_X9, tyX9_ok, nmX9, rfl, rfl, Or.inl (mg 714 (by decide +kernel) rfl)⟩
theorem ff_X9_13 : FF RX9 13 9 1 := ⟨RX9, TX9, rfl, by decide, inM_X9, tyX9_ok, nmX9, rfl, rfl, mg 714 (by decide +kernel) rfl⟩
theorem fl_X9_17 : FL RX9 17 9 2 true := ⟨RX9, TX9, rfl, by decide, inM_X9, tyX9_ok, nmX9, rfl, rfl, Or.inl (mg 715 (by decide +kernel) rfl)⟩
theorem ff_X9_17 : FF RX9 17 9 2 := ⟨RX9, TX9, rfl, by decide, inM_X9, tyX9_ok, nmX9, rfl, rfl, mg 715 (by decide +kernel) rfl⟩
theorem fl_X9_20 : FL RX9 20 9 3 true := ⟨RX9, TX9, rfl, by decide, inM_X9, tyX9_ok, nmX9, rfl, rfl, Or.inl (mg 716 (by decide +kernel) rfl)⟩
theorem ff_X9_20 : FF RX9 20 9 3 := ⟨RX9, TX9, rfl, by decide, inM_X9, tyX9_ok, nmX9, rfl, rfl, mg 716 (by decide +kernel) rfl⟩
theorem fl_X9_24 : FL RX9 24 9 9 true := ⟨RX9, TX9, rfl, by decide, inM_X9, tyX9_ok, nmX9, rfl, rfl, Or.inl (mg 722 (by decide +kernel) rfl)⟩
theorem ff_X9_24 : FF RX9 24 9 9 := ⟨RX9, TX9, rfl, by decide, inM_X9, tyX9_ok, nmX9, rfl, rfl, mg 722 (by decide +kernel) rfl⟩
theorem fl_X9_27 : FL RX9 27 9 10 true := ⟨RX9, TX9, rfl, by decide, inM_X9, tyX9_ok, nmX9, rfl, rfl, Or.inl (mg 723 (by decide +kernel) rfl)⟩
theorem ff_X9_27 : FF RX9 27 9 10 := ⟨RX9, TX9, rfl, by decide, inM_X9, tyX9_ok, nmX9, rfl, rfl, mg 723 (by decide +kernel) rfl⟩
theorem fl_X9_30 : FL RX9 30 9 11 true := ⟨RX9, TX9, rfl, by decide, inM_X9, tyX9_ok, nmX9, rfl, rfl, Or.inl (mg 724 (by decide +kernel) rfl)⟩
theorem ff_X9_30 : FF RX9 30 9 11 := ⟨RX9, TX9, rfl, by decide, inM_X9, tyX9_ok, nmX9, rfl, rfl, mg 724 (by decide +kernel) rfl⟩
theorem fl_X9_33 : FL RX9 33 9 13 true := ⟨RX9, TX9, rfl, by decide, inM_X9, tyX9_ok, nmX9, rfl, rfl, Or.inl (mg 726 (by decide +kernel) rfl)⟩
theorem ff_X9_33 : FF RX9 33 9 13 := ⟨RX9, TX9, rfl, by decide, inM_X9, tyX9_ok, nmX9, rfl, rfl, mg 726 (by decide +kernel) rfl⟩
theorem fl_X9_37 : FL RX9 37 9 14 true := ⟨RX9, TX9, rfl, by decide, inM_X9, tyX9_ok, nmX9, rfl, rfl, Or.inl (mg 727 (by decide +kernel) rfl)⟩
theorem ff_X9_37 : FF RX9 37 9 14 := ⟨RX9, TX9, rfl, by decide, inM_X9, tyX9_ok, nmX9, rfl, rfl, mg 727 (by decide +kernel) rfl⟩
theorem fl_X9_40 : FL RX9 40 9 22 true := ⟨RX9, TX9, rfl, by decide, inM_X9, tyX9_ok, nmX9, rfl, rfl, Or.inl (mg 735 (by decide +kernel) rfl)⟩
theorem ff_X9_40 : FF RX9 40 9 22 := ⟨RX9, TX9, rfl, by decide, inM_X9, tyX9_ok, nmX9, rfl, rfl, mg 735 (by decide +kernel) rfl⟩
theorem fl_X9_43 : FL RX9 43 9 29 true := ⟨RX9, TX9, rfl, by decide, inM_X9, tyX9_ok, nmX9, rfl, rfl, Or.inl (mg 742 (by decide +kernel) rfl)⟩
theorem ff_X9_43 : FF RX9 43 9 29 := ⟨RX9, TX9, rfl, by decide, inM_X9, tyX9_ok, nmX9, rfl, rfl, mg 742 (by decide +kernel) rfl⟩
theorem fl_X9_46 : FL RX9 46 9 33 true := ⟨RX9, TX9, rfl, by decide, inM_X9, tyX9_ok, nmX9, rfl, rfl, Or.inl (mg 746 (by decide +kernel) rfl)⟩
theorem ff_X9_46 : FF RX9 46 9 33 := ⟨RX9, TX9, rfl, by decide, inM_X9, tyX9_ok, nmX9, rfl, rfl, mg 746 (by decide +kernel) rfl⟩
theorem fl_X9_49 : FL RX9 49 9 34 true := ⟨RX9, TX9, rfl, by decide, inM_X9, tyX9_ok, nmX9, rfl, rfl, Or.inl (mg 747 (by decide +kernel) rfl)⟩
theorem ff_X9_49 : FF RX9 49 9 34 := ⟨RX9, TX9, rfl, by decide, inM_X9, tyX9_ok, nmX9, rfl, rfl, mg 747 (by decide +kernel) rfl⟩
theorem fl_X9_52 : FL RX9 52 9 36 true := ⟨RX9, TX9, rfl, by decide, inM_X9, tyX9_ok, nmX9, rfl, rfl, Or.inl (mg 749 (by decide +kernel) rfl)⟩
theorem ff_X9_52 : FF RX9 52 9 36 := ⟨RX9, TX9, rfl, by decide, inM_X9, tyX9_ok, nmX9, rfl, rfl, mg 749 (by decide +kernel) rfl⟩
theorem fl_X9_55 : FL RX9 55 9 37 true := ⟨RX9, TX9, rfl, by decide, inM_X9, tyX9_ok, nmX9, rfl, rfl, Or.inl (mg 750 (by decide +kernel) rfl)⟩
theorem ff_X9_55 : FF RX9 55 9 37 := ⟨RX9, TX9, rfl, by decide, inM_X9, tyX9_ok, nmX9, rfl, rfl, mg 750 (by decide +kernel) rfl⟩
theorem fl_X9_58 : FL RX9 58 9 40 true := ⟨RX9, TX9, rfl, by decide, inM_X9, tyX9_ok, nmX9, rfl, rfl, Or.inl (mg 753 (by decide +kernel) rfl)⟩
theorem ff_X9_58 : FF RX9 58 9 40 := ⟨RX9, TX9, rfl, by decide, inM_X9, tyX9_ok, nmX9, rfl, rfl, mg 753 (by decide +kernel) rfl⟩
theorem cn_X9_greater : CN mX9_greater 2 := ⟨mg 854 (by decide +kernel) rfl, mg 38 (by decide +kernel) rfl, by decide +kernel⟩
theorem lk_X9_61 : LS2 RX9 mX9_greater 61 := ⟨mg 853 (by decide +kernel) rfl, Or.inl (mg 852 (by decide +kernel) rfl)⟩
theorem cn_X9_isFile : CN mX9_isFile 2 := ⟨mg 847 (by decide +kernel) rfl, mg 38 (by decide +kernel) rfl, by decide +kernel⟩
theorem lk_X9_65 : LS2 RX9 mX9_isFile 65 := ⟨mg 846 (by decide +kernel) rfl, Or.inl (mg 845 (by decide +kernel) rfl)⟩
theorem cn_X9_sizeOf : CN mX9_sizeOf 1 := ⟨mg 851 (by decide +kernel) rfl, mg 38 (by decide +kernel) rfl, by decide +kernel⟩
theorem lk_X9_69 : LV RX9 mX9_sizeOf 69 := ⟨mg 850 (by decide +kernel) rfl, mg 11 (by decide +kernel) rfl, Or.inl (mg 848 (by decide +kernel) rfl)⟩
theorem kl_X9_73 : Cond.constantLong RX9 73 (-3750763034362895579) ∈ mGood := mg 896 (by decide +kernel) rfl
theorem kl_X9_75 : Cond.constantLong RX9 75 (255) ∈ mGood := mg 887 (by decide +kernel) rfl
theorem kl_X9_77 : Cond.constantLong RX9 77 (1099511628211) ∈ mGood := mg 897 (by decide +kernel) rfl
theorem cn_X9_digest : CN mX9_digest 3 := ⟨mg 895 (by decide +kernel) rfl, mg 38 (by decide +kernel) rfl, by decide +kernel⟩
theorem lk_X9_79 : LS2 RX9 mX9_digest 79 := ⟨mg 894 (by decide +kernel) rfl, Or.inl (mg 893 (by decide +kernel) rfl)⟩
theorem kl_X9_83 : Cond.constantLong RX9 83 (65536) ∈ mGood := mg 888 (by decide +kernel) rfl
theorem kl_X9_85 : Cond.constantLong RX9 85 (-1) ∈ mGood := mg 883 (by decide +kernel) rfl
theorem cn_X9_weakOf : CN mX9_weakOf 3 := ⟨mg 886 (by decide +kernel) rfl, mg 38 (by decide +kernel) rfl, by decide +kernel⟩
theorem lk_X9_87 : LS2 RX9 mX9_weakOf 87 := ⟨mg 885 (by decide +kernel) rfl, Or.inl (mg 884 (by decide +kernel) rfl)⟩
theorem fl_X9_90 : FL RX9 90 9 5 false := ⟨RX9, TX9, rfl, by decide, inM_X9, tyX9_ok, nmX9, rfl, rfl, Or.inl (mg 718 (by decide +kernel) rfl)⟩
theorem fl_X9_94 : FL RX9 94 9 4 false := ⟨RX9, TX9, rfl, by decide, inM_X9, tyX9_ok, nmX9, rfl, rfl, Or.inl (mg 717 (by decide +kernel) rfl)⟩
theorem fl_X9_97 : FL RX9 97 9 6 false := ⟨RX9, TX9, rfl, by decide, inM_X9, tyX9_ok, nmX9, rfl, rfl, Or.inl (mg 719 (by decide +kernel) rfl)⟩
theorem fl_X9_100 : FL RX9 100 9 8 false := ⟨RX9, TX9, rfl, by decide, inM_X9, tyX9_ok, nmX9, rfl, rfl, Or.inl (mg 721 (by decide +kernel) rfl)⟩
theorem fl_X9_103 : FL RX9 103 9 7 false := ⟨RX9, TX9, rfl, by decide, inM_X9, tyX9_ok, nmX9, rfl, rfl, Or.inl (mg 720 (by decide +kernel) rfl)⟩
theorem fl_X9_106 : FL RX9 106 9 12 false := ⟨RX9, TX9, rfl, by decide, inM_X9, tyX9_ok, nmX9, rfl, rfl, Or.inl (mg 725 (by decide +kernel) rfl)⟩
theorem fl_X9_109 : FL RX9 109 9 15 false := ⟨RX9, TX9, rfl, by decide, inM_X9, tyX9_ok, nmX9, rfl, rfl, Or.inl (mg 728 (by decide +kernel) rfl)⟩
theorem fl_X9_112 : FL RX9 112 9 16 false := ⟨RX9, TX9, rfl, by decide, inM_X9, tyX9_ok, nmX9, rfl, rfl, Or.inl (mg 729 (by decide +kernel) rfl)⟩
theorem fl_X9_115 : FL RX9 115 9 31 false := ⟨RX9, TX9, rfl, by decide, inM_X9, tyX9_ok, nmX9, rfl, rfl, Or.inl (mg 744 (by decide +kernel) rfl)⟩
theorem fl_X9_119 : FL RX9 119 9 23 false := ⟨RX9, TX9, rfl, by decide, inM_X9, tyX9_ok, nmX9, rfl, rfl, Or.inl (mg 736 (by decide +kernel) rfl)⟩
theorem cn_X9_steps : CN mX9_steps 0 := ⟨mg 909 (by decide +kernel) rfl, mg 38 (by decide +kernel) rfl, by decide +kernel⟩
theorem lk_X9_122 : LV RX9 mX9_steps 122 := ⟨mg 908 (by decide +kernel) rfl, mg 12 (by decide +kernel) rfl, Or.inl (mg 906 (by decide +kernel) rfl)⟩
theorem fl_X9_125 : FL RX9 125 9 32 false := ⟨RX9, TX9, rfl, by decide, inM_X9, tyX9_ok, nmX9, rfl, rfl, Or.inl (mg 745 (by decide +kernel) rfl)⟩
theorem cn_X9_makes : CN mX9_makes 0 := ⟨mg 913 (by decide +kernel) rfl, mg 38 (by decide +kernel) rfl, by decide +kernel⟩
theorem lk_X9_128 : LV RX9 mX9_makes 128 := ⟨mg 912 (by decide +kernel) rfl, mg 13 (by decide +kernel) rfl, Or.inl (mg 910 (by decide +kernel) rfl)⟩
theorem fl_X9_131 : FL RX9 131 9 25 false := ⟨RX9, TX9, rfl, by decide, inM_X9, tyX9_ok, nmX9, rfl, rfl, Or.inl (mg 738 (by decide +kernel) rfl)⟩
theorem fl_X9_134 : FL RX9 134 9 27 false := ⟨RX9, TX9, rfl, by decide, inM_X9, tyX9_ok, nmX9, rfl, rfl, Or.inl (mg 740 (by decide +kernel) rfl)⟩
theorem fl_X9_137 : FL RX9 137 9 24 false := ⟨RX9, TX9, rfl, by decide, inM_X9, tyX9_ok, nmX9, rfl, rfl, Or.inl (mg 737 (by decide +kernel) rfl)⟩
theorem fl_X9_140 : FL RX9 140 9 26 false := ⟨RX9, TX9, rfl, by decide, inM_X9, tyX9_ok, nmX9, rfl, rfl, Or.inl (mg 739 (by decide +kernel) rfl)⟩
theorem cn_X9_isToLose : CN mX9_isToLose 0 := ⟨mg 945 (by decide +kernel) rfl, mg 38 (by decide +kernel) rfl, by decide +kernel⟩
theorem lk_X9_143 : LV RX9 mX9_isToLose 143 := ⟨mg 944 (by decide +kernel) rfl, mg 20 (by decide +kernel) rfl, Or.inl (mg 942 (by decide +kernel) rfl)⟩
theorem cn_X9_comes : CN mX9_comes 0 := ⟨mg 949 (by decide +kernel) rfl, mg 38 (by decide +kernel) rfl, by decide +kernel⟩
theorem lk_X9_147 : LV RX9 mX9_comes 147 := ⟨mg 948 (by decide +kernel) rfl, mg 21 (by decide +kernel) rfl, Or.inl (mg 946 (by decide +kernel) rfl)⟩
theorem cn_X9_leastToDo : CN mX9_leastToDo 0 := ⟨mg 941 (by decide +kernel) rfl, mg 38 (by decide +kernel) rfl, by decide +kernel⟩
theorem lk_X9_150 : LV RX9 mX9_leastToDo 150 := ⟨mg 940 (by decide +kernel) rfl, mg 19 (by decide +kernel) rfl, Or.inl (mg 938 (by decide +kernel) rfl)⟩
theorem cn_X9_ends : CN mX9_ends 0 := ⟨mg 972 (by decide +kernel) rfl, mg 38 (by decide +kernel) rfl, by decide +kernel⟩
theorem lk_X9_154 : LV RX9 mX9_ends 154 := ⟨mg 971 (by decide +kernel) rfl, mg 26 (by decide +kernel) rfl, Or.inl (mg 969 (by decide +kernel) rfl)⟩
theorem cn_X9_target : CN mX9_target 0 := ⟨mg 933 (by decide +kernel) rfl, mg 38 (by decide +kernel) rfl, by decide +kernel⟩
theorem lk_X9_157 : LV RX9 mX9_target 157 := ⟨mg 932 (by decide +kernel) rfl, mg 17 (by decide +kernel) rfl, Or.inl (mg 930 (by decide +kernel) rfl)⟩
theorem fl_X9_160 : FL RX9 160 9 41 false := ⟨RX9, TX9, rfl, by decide, inM_X9, tyX9_ok, nmX9, rfl, rfl, Or.inl (mg 754 (by decide +kernel) rfl)⟩
theorem cn_X9_message : CN mX9_message 3 := ⟨mg 917 (by decide +kernel) rfl, mg 38 (by decide +kernel) rfl, by decide +kernel⟩
theorem lk_X9_163 : LV RX9 mX9_message 163 := ⟨mg 916 (by decide +kernel) rfl, mg 14 (by decide +kernel) rfl, Or.inl (mg 914 (by decide +kernel) rfl)⟩
theorem cn_X9_node : CN mX9_node 2 := ⟨mg 892 (by decide +kernel) rfl, mg 38 (by decide +kernel) rfl, by decide +kernel⟩
theorem lk_X9_167 : LV RX9 mX9_node 167 := ⟨mg 890 (by decide +kernel) rfl, mg 891 (by decide +kernel) rfl, Or.inl (mg 918 (by decide +kernel) rfl)⟩
theorem fl_X9_171 : FL RX9 171 9 28 false := ⟨RX9, TX9, rfl, by decide, inM_X9, tyX9_ok, nmX9, rfl, rfl, Or.inl (mg 741 (by decide +kernel) rfl)⟩
theorem cn_X9_makesOfFile : CN mX9_makesOfFile 0 := ⟨mg 922 (by decide +kernel) rfl, mg 38 (by decide +kernel) rfl, by decide +kernel⟩
theorem lk_X9_175 : LV RX9 mX9_makesOfFile 175 := ⟨mg 921 (by decide +kernel) rfl, mg 15 (by decide +kernel) rfl, Or.inl (mg 919 (by decide +kernel) rfl)⟩
theorem cn_X9_makesSums : CN mX9_makesSums 0 := ⟨mg 937 (by decide +kernel) rfl, mg 38 (by decide +kernel) rfl, by decide +kernel⟩
theorem lk_X9_178 : LV RX9 mX9_makesSums 178 := ⟨mg 936 (by decide +kernel) rfl, mg 18 (by decide +kernel) rfl, Or.inl (mg 934 (by decide +kernel) rfl)⟩
theorem fl_X9_181 : FL RX9 181 9 17 false := ⟨RX9, TX9, rfl, by decide, inM_X9, tyX9_ok, nmX9, rfl, rfl, Or.inl (mg 730 (by decide +kernel) rfl)⟩
theorem fl_X9_184 : FL RX9 184 9 18 false := ⟨RX9, TX9, rfl, by decide, inM_X9, tyX9_ok, nmX9, rfl, rfl, Or.inl (mg 731 (by decide +kernel) rfl)⟩
theorem fl_X9_187 : FL RX9 187 9 35 false := ⟨RX9, TX9, rfl, by decide, inM_X9, tyX9_ok, nmX9, rfl, rfl, Or.inl (mg 748 (by decide +kernel) rfl)⟩
theorem cn_X9_strong : CN mX9_strong 4 := ⟨mg 929 (by decide +kernel) rfl, mg 38 (by decide +kernel) rfl, by decide +kernel⟩
theorem lk_X9_190 : LS2 RX9 mX9_strong 190 := ⟨mg 928 (by decide +kernel) rfl, Or.inl (mg 927 (by decide +kernel) rfl)⟩
theorem fl_X9_194 : FL RX9 194 9 20 false := ⟨RX9, TX9, rfl, by decide, inM_X9, tyX9_ok, nmX9, rfl, rfl, Or.inl (mg 733 (by decide +kernel) rfl)⟩
theorem fl_X9_197 : FL RX9 197 9 19 false := ⟨RX9, TX9, rfl, by decide, inM_X9, tyX9_ok, nmX9, rfl, rfl, Or.inl (mg 732 (by decide +kernel) rfl)⟩
theorem cn_X9_look : CN mX9_look 1 := ⟨mg 926 (by decide +kernel) rfl, mg 38 (by decide +kernel) rfl, by decide +kernel⟩
theorem lk_X9_200 : LV RX9 mX9_look 200 := ⟨mg 925 (by decide +kernel) rfl, mg 16 (by decide +kernel) rfl, Or.inl (mg 923 (by decide +kernel) rfl)⟩
theorem fl_X9_203 : FL RX9 203 9 30 false := ⟨RX9, TX9, rfl, by decide, inM_X9, tyX9_ok, nmX9, rfl, rfl, Or.inl (mg 743 (by decide +kernel) rfl)⟩
theorem fl_X9_206 : FL RX9 206 9 39 false := ⟨RX9, TX9, rfl, by decide, inM_X9, tyX9_ok, nmX9, rfl, rfl, Or.inl (mg 752 (by decide +kernel) rfl)⟩
theorem fl_X9_209 : FL RX9 209 9 38 false := ⟨RX9, TX9, rfl, by decide, inM_X9, tyX9_ok, nmX9, rfl, rfl, Or.inl (mg 751 (by decide +kernel) rfl)⟩
theorem cn_X9_nodeComes : CN mX9_nodeComes 0 := ⟨mg 953 (by decide +kernel) rfl, mg 38 (by decide +kernel) rfl, by decide +kernel⟩
theorem lk_X9_212 : LV RX9 mX9_nodeComes 212 := ⟨mg 952 (by decide +kernel) rfl, mg 22 (by decide +kernel) rfl, Or.inl (mg 950 (by decide +kernel) rfl)⟩
theorem cn_X9_sumsCome : CN mX9_sumsCome 0 := ⟨mg 957 (by decide +kernel) rfl, mg 38 (by decide +kernel) rfl, by decide +kernel⟩
theorem lk_X9_215 : LV RX9 mX9_sumsCome 215 := ⟨mg 956 (by decide +kernel) rfl, mg 23 (by decide +kernel) rfl, Or.inl (mg 954 (by decide +kernel) rfl)⟩
theorem cn_X9_builds : CN mX9_builds 1 := ⟨mg 961 (by decide +kernel) rfl, mg 38 (by decide +kernel) rfl, by decide +kernel⟩
theorem lk_X9_218 : LV RX9 mX9_builds 218 := ⟨mg 960 (by decide +kernel) rfl, mg 24 (by decide +kernel) rfl, Or.inl (mg 958 (by decide +kernel) rfl)⟩
theorem cn_X9_endComes : CN mX9_endComes 0 := ⟨mg 965 (by decide +kernel) rfl, mg 38 (by decide +kernel) rfl, by decide +kernel⟩
theorem lk_X9_222 : LV RX9 mX9_endComes 222 := ⟨mg 964 (by decide +kernel) rfl, mg 25 (by decide +kernel) rfl, Or.inl (mg 962 (by decide +kernel) rfl)⟩
theorem fl_X9_225 : FL RX9 225 9 21 false := ⟨RX9, TX9, rfl, by decide, inM_X9, tyX9_ok, nmX9, rfl, rfl, Or.inl (mg 734 (by decide +kernel) rfl)⟩
theorem cn_X9_lesser : CN mX9_lesser 2 := ⟨mg 968 (by decide +kernel) rfl, mg 38 (by decide +kernel) rfl, by decide +kernel⟩
theorem lk_X9_228 : LS2 RX9 mX9_lesser 228 := ⟨mg 967 (by decide +kernel) rfl, Or.inl (mg 966 (by decide +kernel) rfl)⟩
theorem kl_J13_314 : Cond.constantLong RJ13 314 (6148914691236517205) ∈ mGood := mg 647 (by decide +kernel) rfl
theorem kl_J13_316 : Cond.constantLong RJ13 316 (3689348814741910323) ∈ mGood := mg 648 (by decide +kernel) rfl
theorem kl_J13_318 : Cond.constantLong RJ13 318 (1085102592571150095) ∈ mGood := mg 649 (by decide +kernel) rfl
theorem nw_L_7 : NW RL 7 8 := ⟨RX8, TX8, rfl, inM_X8, tyX8_ok, mg 41 (by decide +kernel) rfl, mg 42 (by decide +kernel) rfl, mg 28 (by decide +kernel) rfl, by decide⟩
theorem cn_X8_init : CN mX8_init 0 := ⟨mg 45 (by decide +kernel) rfl, mg 28 (by decide +kernel) rfl, by decide +kernel⟩
theorem lk_L_9 : LI RL mX8_init 9 := ⟨rfl, rfl, mg 44 (by decide +kernel) rfl, Or.inl (mg 43 (by decide +kernel) rfl)⟩
theorem nw_L_10 : NW RL 10 9 := ⟨RX9, TX9, rfl, inM_X9, tyX9_ok, mg 707 (by decide +kernel) rfl, mg 708 (by decide +kernel) rfl, mg 38 (by decide +kernel) rfl, by decide⟩
theorem cn_X9_init : CN mX9_init 0 := ⟨mg 711 (by decide +kernel) rfl, mg 38 (by decide +kernel) rfl, by decide +kernel⟩
theorem lk_L_12 : LI RL mX9_init 12 := ⟨rfl, rfl, mg 710 (by decide +kernel) rfl, Or.inl (mg 709 (by decide +kernel) rfl)⟩
theorem kl_L_13 : Cond.constantLong RL 13 (4294967295) ∈ mGood := mg 997 (by decide +kernel) rfl
theorem cn_X8_write : CN mX8_write 5 := ⟨mg 344 (by decide +kernel) rfl, mg 28 (by decide +kernel) rfl, by decide +kernel⟩
theorem lk_L_15 : LV RL mX8_write 15 := ⟨mg 342 (by decide +kernel) rfl, mg 343 (by decide +kernel) rfl, Or.inl (mg 341 (by decide +kernel) rfl)⟩
theorem cn_X9_write : CN mX9_write 5 := ⟨mg 844 (by decide +kernel) rfl, mg 38 (by decide +kernel) rfl, by decide +kernel⟩
theorem lk_L_19 : LV RL mX9_write 19 := ⟨mg 842 (by decide +kernel) rfl, mg 843 (by decide +kernel) rfl, Or.inl (mg 841 (by decide +kernel) rfl)⟩
theorem cn_X8_again : CN mX8_again 4 := ⟨mg 376 (by decide +kernel) rfl, mg 28 (by decide +kernel) rfl, by decide +kernel⟩
theorem lk_L_20 : LV RL mX8_again 20 := ⟨mg 374 (by decide +kernel) rfl, mg 375 (by decide +kernel) rfl, Or.inl (mg 373 (by decide +kernel) rfl)⟩
theorem cn_X9_again : CN mX9_again 4 := ⟨mg 858 (by decide +kernel) rfl, mg 38 (by decide +kernel) rfl, by decide +kernel⟩
theorem lk_L_24 : LV RL mX9_again 24 := ⟨mg 856 (by decide +kernel) rfl, mg 857 (by decide +kernel) rfl, Or.inl (mg 855 (by decide +kernel) rfl)⟩
theorem cn_X8_trim : CN mX8_trim 3 := ⟨mg 400 (by decide +kernel) rfl, mg 28 (by decide +kernel) rfl, by decide +kernel⟩
theorem lk_L_25 : LV RL mX8_trim 25 := ⟨mg 398 (by decide +kernel) rfl, mg 399 (by decide +kernel) rfl, Or.inl (mg 397 (by decide +kernel) rfl)⟩
theorem cn_X9_trim : CN mX9_trim 3 := ⟨mg 862 (by decide +kernel) rfl, mg 38 (by decide +kernel) rfl, by decide +kernel⟩
theorem lk_L_29 : LV RL mX9_trim 29 := ⟨mg 860 (by decide +kernel) rfl, mg 861 (by decide +kernel) rfl, Or.inl (mg 859 (by decide +kernel) rfl)⟩
theorem cn_X8_drop : CN mX8_drop 2 := ⟨mg 408 (by decide +kernel) rfl, mg 28 (by decide +kernel) rfl, by decide +kernel⟩
theorem lk_L_30 : LV RL mX8_drop 30 := ⟨mg 406 (by decide +kernel) rfl, mg 407 (by decide +kernel) rfl, Or.inl (mg 405 (by decide +kernel) rfl)⟩
theorem cn_X9_drop : CN mX9_drop 2 := ⟨mg 866 (by decide +kernel) rfl, mg 38 (by decide +kernel) rfl, by decide +kernel⟩
theorem lk_L_34 : LV RL mX9_drop 34 := ⟨mg 864 (by decide +kernel) rfl, mg 865 (by decide +kernel) rfl, Or.inl (mg 863 (by decide +kernel) rfl)⟩
theorem cn_X8_same : CN mX8_same 2 := ⟨mg 417 (by decide +kernel) rfl, mg 28 (by decide +kernel) rfl, by decide +kernel⟩
theorem lk_L_35 : LV RL mX8_same 35 := ⟨mg 415 (by decide +kernel) rfl, mg 416 (by decide +kernel) rfl, Or.inl (mg 414 (by decide +kernel) rfl)⟩
theorem cn_X9_same : CN mX9_same 2 := ⟨mg 870 (by decide +kernel) rfl, mg 38 (by decide +kernel) rfl, by decide +kernel⟩
theorem lk_L_38 : LV RL mX9_same 38 := ⟨mg 868 (by decide +kernel) rfl, mg 869 (by decide +kernel) rfl, Or.inl (mg 867 (by decide +kernel) rfl)⟩
theorem cn_X8_at : CN mX8_at 3 := ⟨mg 429 (by decide +kernel) rfl, mg 28 (by decide +kernel) rfl, by decide +kernel⟩
theorem lk_L_39 : LV RL mX8_at 39 := ⟨mg 427 (by decide +kernel) rfl, mg 428 (by decide +kernel) rfl, Or.inl (mg 426 (by decide +kernel) rfl)⟩
theorem cn_X9_at : CN mX9_at 3 := ⟨mg 874 (by decide +kernel) rfl, mg 38 (by decide +kernel) rfl, by decide +kernel⟩
theorem lk_L_42 : LV RL mX9_at 42 := ⟨mg 872 (by decide +kernel) rfl, mg 873 (by decide +kernel) rfl, Or.inl (mg 871 (by decide +kernel) rfl)⟩
theorem cn_X8_size : CN mX8_size 2 := ⟨mg 433 (by decide +kernel) rfl, mg 28 (by decide +kernel) rfl, by decide +kernel⟩
theorem lk_L_43 : LV RL mX8_size 43 := ⟨mg 431 (by decide +kernel) rfl, mg 432 (by decide +kernel) rfl, Or.inl (mg 430 (by decide +kernel) rfl)⟩
theorem cn_X9_size : CN mX9_size 2 := ⟨mg 878 (by decide +kernel) rfl, mg 38 (by decide +kernel) rfl, by decide +kernel⟩
theorem lk_L_46 : LV RL mX9_size 46 := ⟨mg 876 (by decide +kernel) rfl, mg 877 (by decide +kernel) rfl, Or.inl (mg 875 (by decide +kernel) rfl)⟩
theorem cn_X8_node : CN mX8_node 2 := ⟨mg 437 (by decide +kernel) rfl, mg 28 (by decide +kernel) rfl, by decide +kernel⟩
theorem lk_L_47 : LV RL mX8_node 47 := ⟨mg 435 (by decide +kernel) rfl, mg 436 (by decide +kernel) rfl, Or.inl (mg 434 (by decide +kernel) rfl)⟩
theorem lk_L_51 : LV RL mX9_node 51 := ⟨mg 890 (by decide +kernel) rfl, mg 891 (by decide +kernel) rfl, Or.inl (mg 889 (by decide +kernel) rfl)⟩
theorem cn_X8_begin : CN mX8_begin 4 := ⟨mg 445 (by decide +kernel) rfl, mg 28 (by decide +kernel) rfl, by decide +kernel⟩
theorem lk_L_52 : LV RL mX8_begin 52 := ⟨mg 443 (by decide +kernel) rfl, mg 444 (by decide +kernel) rfl, Or.inl (mg 442 (by decide +kernel) rfl)⟩
theorem cn_X9_begin : CN mX9_begin 4 := ⟨mg 901 (by decide +kernel) rfl, mg 38 (by decide +kernel) rfl, by decide +kernel⟩
theorem lk_L_55 : LV RL mX9_begin 55 := ⟨mg 899 (by decide +kernel) rfl, mg 900 (by decide +kernel) rfl, Or.inl (mg 898 (by decide +kernel) rfl)⟩
theorem cn_X8_step : CN mX8_step 1 := ⟨mg 478 (by decide +kernel) rfl, mg 28 (by decide +kernel) rfl, by decide +kernel⟩
theorem lk_L_56 : LV RL mX8_step 56 := ⟨mg 476 (by decide +kernel) rfl, mg 477 (by decide +kernel) rfl, Or.inl (mg 475 (by decide +kernel) rfl)⟩
theorem cn_X9_step : CN mX9_step 1 := ⟨mg 905 (by decide +kernel) rfl, mg 38 (by decide +kernel) rfl, by decide +kernel⟩
theorem lk_L_60 : LV RL mX9_step 60 := ⟨mg 903 (by decide +kernel) rfl, mg 904 (by decide +kernel) rfl, Or.inl (mg 902 (by decide +kernel) rfl)⟩
theorem cn_X8_lose : CN mX8_lose 1 := ⟨mg 639 (by decide +kernel) rfl, mg 28 (by decide +kernel) rfl, by decide +kernel⟩
theorem lk_L_61 : LV RL mX8_lose 61 := ⟨mg 637 (by decide +kernel) rfl, mg 638 (by decide +kernel) rfl, Or.inl (mg 636 (by decide +kernel) rfl)⟩
theorem cn_X9_lose : CN mX9_lose 1 := ⟨mg 976 (by decide +kernel) rfl, mg 38 (by decide +kernel) rfl, by decide +kernel⟩
theorem lk_L_64 : LV RL mX9_lose 64 := ⟨mg 974 (by decide +kernel) rfl, mg 975 (by decide +kernel) rfl, Or.inl (mg 973 (by decide +kernel) rfl)⟩
theorem cn_X8_cut : CN mX8_cut 0 := ⟨mg 653 (by decide +kernel) rfl, mg 28 (by decide +kernel) rfl, by decide +kernel⟩
theorem lk_L_65 : LV RL mX8_cut 65 := ⟨mg 651 (by decide +kernel) rfl, mg 652 (by decide +kernel) rfl, Or.inl (mg 650 (by decide +kernel) rfl)⟩
theorem cn_X9_cut : CN mX9_cut 0 := ⟨mg 980 (by decide +kernel) rfl, mg 38 (by decide +kernel) rfl, by decide +kernel⟩
theorem lk_L_69 : LV RL mX9_cut 69 := ⟨mg 978 (by decide +kernel) rfl, mg 979 (by decide +kernel) rfl, Or.inl (mg 977 (by decide +kernel) rfl)⟩
theorem cn_X8_state : CN mX8_state 1 := ⟨mg 661 (by decide +kernel) rfl, mg 28 (by decide +kernel) rfl, by decide +kernel⟩
theorem lk_L_70 : LV RL mX8_state 70 := ⟨mg 659 (by decide +kernel) rfl, mg 660 (by decide +kernel) rfl, Or.inl (mg 658 (by decide +kernel) rfl)⟩
theorem cn_X9_state : CN mX9_state 1 := ⟨mg 984 (by decide +kernel) rfl, mg 38 (by decide +kernel) rfl, by decide +kernel⟩
theorem lk_L_73 : LV RL mX9_state 73 := ⟨mg 982 (by decide +kernel) rfl, mg 983 (by decide +kernel) rfl, Or.inl (mg 981 (by decide +kernel) rfl)⟩
theorem cn_X8_sent : CN mX8_sent 1 := ⟨mg 674 (by decide +kernel) rfl, mg 28 (by decide +kernel) rfl, by decide +kernel⟩
theorem lk_L_74 : LV RL mX8_sent 74 := ⟨mg 672 (by decide +kernel) rfl, mg 673 (by decide +kernel) rfl, Or.inl (mg 671 (by decide +kernel) rfl)⟩
theorem cn_X9_sent : CN mX9_sent 1 := ⟨mg 988 (by decide +kernel) rfl, mg 38 (by decide +kernel) rfl, by decide +kernel⟩
theorem lk_L_78 : LV RL mX9_sent 78 := ⟨mg 986 (by decide +kernel) rfl, mg 987 (by decide +kernel) rfl, Or.inl (mg 985 (by decide +kernel) rfl)⟩
theorem cn_X8_built : CN mX8_built 1 := ⟨mg 683 (by decide +kernel) rfl, mg 28 (by decide +kernel) rfl, by decide +kernel⟩
theorem lk_L_79 : LV RL mX8_built 79 := ⟨mg 681 (by decide +kernel) rfl, mg 682 (by decide +kernel) rfl, Or.inl (mg 680 (by decide +kernel) rfl)⟩
theorem cn_X9_built : CN mX9_built 1 := ⟨mg 992 (by decide +kernel) rfl, mg 38 (by decide +kernel) rfl, by decide +kernel⟩
theorem lk_L_82 : LV RL mX9_built 82 := ⟨mg 990 (by decide +kernel) rfl, mg 991 (by decide +kernel) rfl, Or.inl (mg 989 (by decide +kernel) rfl)⟩
theorem cn_X8_sums : CN mX8_sums 2 := ⟨mg 692 (by decide +kernel) rfl, mg 28 (by decide +kernel) rfl, by decide +kernel⟩
theorem lk_L_83 : LV RL mX8_sums 83 := ⟨mg 690 (by decide +kernel) rfl, mg 691 (by decide +kernel) rfl, Or.inl (mg 689 (by decide +kernel) rfl)⟩
theorem cn_X9_sums : CN mX9_sums 2 := ⟨mg 996 (by decide +kernel) rfl, mg 38 (by decide +kernel) rfl, by decide +kernel⟩
theorem lk_L_86 : LV RL mX9_sums 86 := ⟨mg 994 (by decide +kernel) rfl, mg 995 (by decide +kernel) rfl, Or.inl (mg 993 (by decide +kernel) rfl)⟩
theorem cn_X8_weak : CN mX8_weak 4 := ⟨mg 705 (by decide +kernel) rfl, mg 28 (by decide +kernel) rfl, by decide +kernel⟩
theorem lk_L_87 : LV RL mX8_weak 87 := ⟨mg 703 (by decide +kernel) rfl, mg 704 (by decide +kernel) rfl, Or.inl (mg 702 (by decide +kernel) rfl)⟩
theorem cn_X9_weak : CN mX9_weak 4 := ⟨mg 882 (by decide +kernel) rfl, mg 38 (by decide +kernel) rfl, by decide +kernel⟩
theorem lk_L_91 : LV RL mX9_weak 91 := ⟨mg 880 (by decide +kernel) rfl, mg 881 (by decide +kernel) rfl, Or.inl (mg 879 (by decide +kernel) rfl)⟩
theorem oi_inst : Cond.instanceMethod Lib.objectInit ∈ mGood := mg 47 (by decide +kernel) rfl
theorem oi_code : Cond.code Lib.objectInit ⟨#[0xb1]⟩ 1 none ∈ mGood := mg 48 (by decide +kernel) rfl
theorem ar_boolean : Cond.arrayClass .boolean ∈ mGood := mg 72 (by decide +kernel) rfl
theorem ar_long : Cond.arrayClass .long ∈ mGood := mg 73 (by decide +kernel) rfl
theorem ar_int : Cond.arrayClass .int ∈ mGood := mg 74 (by decide +kernel) rfl
theorem ac_nat : Cond.native arraycopyName ∈ mGood := mg 591 (by decide +kernel) rfl
theorem ac_st : Cond.static arraycopyName ∈ mGood := mg 590 (by decide +kernel) rfl
theorem ac_in : Cond.initialized "java/lang/System" ∈ mGood := mg 39 (by decide +kernel) rfl
theorem ar_byte : Cond.arrayClass .byte ∈ mGood := mg 840 (by decide +kernel) rfl
end
section
section ERT
variable {M : MI} {scr : Option (Nat × (Nat → Int32))} {Q : QT} {pc : Nat} {lv : List (Option Value)} {st : List Value} {sh : List Sh} {h : Hp} {kc ks : Nat}
theorem E_reti {x : Int32} {ty : FieldType} (hd : decode M.2.1 pc = .ok (.ireturn, 1)) (hr : M.2.2.2.1 = some ty) (hn : narrow ty (.int x) = .int x) (hc : kc ≤ M.2.2.2.2.cells) (hk : ks ≤ M.2.2.2.2.slots) (hq : Q (some (.int x)) sh h) : E M scr Q pc lv [.int x] sh h kc ks := E_ret (some (.int x)) hd ⟨rfl, ty, hr, hn⟩ rfl hc hk hq
theorem E_retl {x : Int64} (hd : decode M.2.1 pc = .ok (.lreturn, 1)) (hr : M.2.2.2.1 = some .long) (hc : kc ≤ M.2.2.2.2.cells) (hk : ks ≤ M.2.2.2.2.slots) (hq : Q (some (.long x)) sh h) : E M scr Q pc lv [.long x] sh h kc ks := E_ret (some (.long x)) hd ⟨rfl, hr⟩ rfl hc hk hq
theorem E_retr {x : Nat} {cn : String} (hd : decode M.2.1 pc = .ok (.areturn, 1)) (hr : M.2.2.2.1 = some (.object cn)) (hc : kc ≤ M.2.2.2.2.cells) (hk : ks ≤ M.2.2.2.2.slots) (hq : Q (some (.ref x)) sh h) : E M scr Q pc lv [.ref x] sh h kc ks := E_ret (some (.ref x)) hd ⟨rfl, cn, hr⟩ rfl hc hk hq
theorem E_retn {cn : String} (hd : decode M.2.1 pc = .ok (.areturn, 1)) (hr : M.2.2.2.1 = some (.object cn)) (hc : kc ≤ M.2.2.2.2.cells) (hk : ks ≤ M.2.2.2.2.slots) (hq : Q (some .null) sh h) : E M scr Q pc lv [.null] sh h kc ks := E_ret (some .null) hd ⟨rfl, cn, hr⟩ rfl hc hk hq
theorem E_retv (hd : decode M.2.1 pc = .ok (.return_, 1)) (hr : M.2.2.2.1 = none) (hc : kc ≤ M.2.2.2.2.cells) (hk : ks ≤ M.2.2.2.2.slots) (hq : Q none sh h) : E M scr Q pc lv [] sh h kc ks := E_ret none hd ⟨rfl, hr⟩ rfl hc hk hq
end ERT
theorem SpF_of {M : MI} {av : List Value} {sh : List Sh} {h : Hp} {Q : QT} (hy : plainFor M.1 = true) (hn : (lg_sl av).length ≤ M.2.2.1) (k : E M none Q 0 (lvE M.2.2.1 av) [] sh h 0 0) : Sp M av sh h Q := by
  intro l D cyc b adr sz
  refine va_MetF (cc := M.2.1) (maxL := M.2.2.1) (ret := M.2.2.2.1) hy rfl ?_
  intro p e s m args below meth c s₁ B hml hv
  obtain ⟨rfl, hsz, hP, hK, hD0, hnd, hN, hO⟩ := hv
  subst hsz
  have hts := atoms_spec (ws := Cond.code M.1 M.2.1 M.2.2.1 M.2.2.2.1 :: mGood) B.pre
  have hlocks := B.notSynchronized
  have hl := lv_entry (av.map (rv b adr)) (n := M.2.2.1) (by rw [lg_rv]; exact hn)
  rw [lg_entry_eq]
  generalize (lg_sl (av.map (rv b adr)) ++ List.replicate (M.2.2.1 - (lg_sl (av.map (rv b adr))).length) Slot.unset).toArray = ls at hl ⊢
  refine k p l e s m _ below meth c D cyc (va_A (wsl cyc adr h sh) s.heap.size) _ sh.length b adr ?_ adr [] s.heap ls ⟨hP, hD0.self, va_S.rf, fun _ _ => rfl, fun _ => rfl, Nat.le_refl _, hnd⟩ ⟨hl.1, hl.2.1, fun i v hi => hl.2.2 (i, rv b adr v) (by simpa using lvE_mem b adr av M.2.2.1 0 i v hi)⟩
  refine ⟨B.exec, B.bytes, hml, findClass_of_methodNamed B.named, fun w hw => hts w (List.mem_cons_of_mem _ hw), hN, hO, (name_of_methodNamed B.named B.method).1, fun q hq => Or.inr hq, hK, fun L xs hh => (by cases hh), ?_⟩
  intro v i sh' h' adr' H locs pc ls2 hq w hr hd
  obtain ⟨w1, w2, w3, w4, w5, w6, w7⟩ := w
  have key : ∀ t : State, t.heap = H → s.WarmedH t.vm → SQc Q D cyc b adr sh h s.heap.size (av.map (rv b adr)).toArray s (.returned (v.map (rv b adr'))) t := fun t ht hW =>
    ⟨v, sh', h', adr', rfl, hq, by rw [ht]; exact w1, w2, w4, w5, w6, w7, w3.F ht⟩
  match v, hr, key with
  | none, hr, key => exact W.vret B.exec B.bytes (B.returns.trans hr.2) key w3.2.2 (by rw [hd, hr.1])
  | some (.int x), hr, key =>
    obtain ⟨r1, ty, r2, r3⟩ := hr
    exact W.zret (ty := ty) B.exec B.bytes (B.returns.trans r2) r3 key w3.2.2 (by rw [hd, r1])
  | some (.long x), hr, key => exact W.lret B.exec B.bytes (B.returns.trans hr.2) key w3.2.2 (by rw [hd, hr.1])
  | some .null, hr, key =>
    obtain ⟨r1, n, r2⟩ := hr
    exact W.aret (rt := .object n) B.exec B.bytes (B.returns.trans r2) (Or.inl ⟨n, rfl⟩) (Or.inl rfl) key w3.2.2 (by rw [hd, r1])
  | some (.ref x), hr, key =>
    obtain ⟨r1, n, r2⟩ := hr
    exact W.aret (rt := .object n) B.exec B.bytes (B.returns.trans r2) (Or.inl ⟨n, rfl⟩) (Or.inr ⟨adr' x, rfl⟩) key w3.2.2 (by rw [hd, r1])
theorem Sp0F_of {M : MI} {av : List Value} {sh : List Sh} {h : Hp} {Q : Option Value → Hp → Prop} (hy : plainFor M.1 = true) (hn : (lg_sl av).length ≤ M.2.2.1) (k : E M none (fun v sh' h' => sh' = sh ∧ Q v h') 0 (lvE M.2.2.1 av) [] sh h 0 0) : Sp0 M av sh h Q := SpF_of hy hn k
end
section
/-! ===== a byte read unsigned ===== -/
theorem bp_b (x : Int32) : x.toInt8.toInt32 &&& 255 = x &&& 255 := by
  apply Int32.toBitVec_inj.mp
  rw [Int32.toBitVec_and, Int32.toBitVec_and, Int8.toBitVec_toInt32, Int32.toBitVec_toInt8]
  apply BitVec.eq_of_getLsbD_eq
  intro i hi
  rw [BitVec.getLsbD_and, BitVec.getLsbD_and]
  have hm : ∀ i < 32, 8 ≤ i → (255 : Int32).toBitVec.getLsbD i = false := by decide
  rcases Nat.lt_or_ge i 8 with z | z
  · rw [BitVec.getLsbD_signExtend, BitVec.getLsbD_signExtend, if_pos z, if_pos hi]
    simp only [z, hi, decide_true, Bool.true_and]
  · rw [hm i hi z]; simp
/-! ===== Int64 as a set of bits: test, set, clear ===== -/
theorem ts_nf {x : Bool} (h : ¬ x = false) : x = true := by cases x <;> first | rfl | exact absurd rfl h
theorem ts_nt {x : Bool} (h : ¬ x = true) : x = false := by cases x <;> first | rfl | exact absurd rfl h
theorem ts_bit {w : Int64} {s : UInt64} {j : Nat} (hj : j < 64) (hs : s.toNat = j) : ((w.toUInt64 >>> s).toInt64 &&& 1) = 0 ↔ w.toBitVec.getLsbD j = false := by
  have e : (w.toUInt64 >>> s).toInt64.toBitVec = w.toBitVec >>> j := by
    apply BitVec.eq_of_toNat_eq
    show (w.toUInt64 >>> s).toNat = _
    rw [UInt64.toNat_shiftRight, hs, Nat.mod_eq_of_lt hj, BitVec.toNat_ushiftRight]
    rfl
  rw [← Int64.toBitVec_inj, Int64.toBitVec_and, e]
  show w.toBitVec >>> j &&& 1#64 = 0#64 ↔ _
  constructor
  · intro h
    have t := congrArg (fun x => x.getLsbD 0) h
    simpa using t
  · intro h
    apply BitVec.eq_of_getLsbD_eq
    intro i hi
    cases i with
    | zero => simp [h]
    | succ i => simp
theorem ts_or {w m : Int64} {j : Nat} (hj : j < 64) (hm : m.toBitVec = BitVec.twoPow 64 j) : (w ||| m) = w ↔ w.toBitVec.getLsbD j = true := by
  rw [← Int64.toBitVec_inj, Int64.toBitVec_or, hm]
  constructor
  · intro h
    have t := congrArg (fun x => x.getLsbD j) h
    simp only [BitVec.getLsbD_or, BitVec.getLsbD_twoPow] at t
    simpa [hj] using t.symm
  · intro h
    apply BitVec.eq_of_getLsbD_eq
    intro i hi
    rw [BitVec.getLsbD_or, BitVec.getLsbD_twoPow]
    by_cases e : j = i
    · subst e; rw [h, Bool.true_or]
    · simp [e]
theorem ts_and {w m : Int64} {j : Nat} (hj : j < 64) (hm : m.toBitVec = BitVec.twoPow 64 j) : (w &&& (m ^^^ (-1))) = w ↔ w.toBitVec.getLsbD j = false := by
  have ha : (-1 : Int64).toBitVec = BitVec.allOnes 64 := by decide
  rw [← Int64.toBitVec_inj, Int64.toBitVec_and, Int64.toBitVec_xor, hm, ha]
  constructor
  · intro h
    have t := congrArg (fun x => x.getLsbD j) h
    simp only [BitVec.getLsbD_and, BitVec.getLsbD_xor, BitVec.getLsbD_twoPow, BitVec.getLsbD_allOnes] at t
    simpa [hj] using t.symm
  · intro h
    apply BitVec.eq_of_getLsbD_eq
    intro i hi
    rw [BitVec.getLsbD_and, BitVec.getLsbD_xor, BitVec.getLsbD_twoPow, BitVec.getLsbD_allOnes]
    by_cases e : j = i
    · subst e; rw [h, Bool.false_and]
    · simp [e, hi]
/-! ===== lN n to 2^64: shifts, and, or, masks, one bit ===== -/
theorem wb_tb (n : Nat) : (lN n).toBitVec = BitVec.ofNat 64 n := rfl
theorem wb_inj {a b : Int64} (h : a.toBitVec = b.toBitVec) : a = b := Int64.toBitVec_inj.mp h
theorem wb_tn {n : Nat} (h : n < 2 ^ 64) : (lN n).toBitVec.toNat = n := by rw [wb_tb, BitVec.toNat_ofNat, Nat.mod_eq_of_lt h]
theorem wb_of (x : Int64) : ∃ n, n < 2 ^ 64 ∧ x = lN n := ⟨x.toBitVec.toNat, x.toBitVec.isLt, wb_inj (by rw [wb_tb]; simp)⟩
theorem wb_of32 (x : Int32) : ∃ n, n < 2 ^ 32 ∧ x = nI n := ⟨x.toBitVec.toNat, x.toBitVec.isLt, Int32.toBitVec_inj.mp (by show _ = BitVec.ofNat 32 _; simp)⟩
theorem wb_c : ∀ k, k < 64 → ((nI k).toInt64 &&& 63) = lN k := by decide +kernel
theorem wb_cu : ∀ k, k < 64 → ((nI k).toInt64.toUInt64 &&& Int64.toUInt64 63) = UInt64.ofNat k := by decide +kernel
theorem wb_sm : ∀ k, k < 64 → (BitVec.ofNat 64 k).smod 64 = BitVec.ofNat 64 k := by decide +kernel
theorem wb_pw {a b : Nat} (h : a ≤ b) : 2 ^ b = 2 ^ a * 2 ^ (b - a) := by rw [← Nat.pow_add]; congr 1; omega
theorem wb_lt2 {a b : Nat} (h : a < b) : 2 ^ a < 2 ^ b := Nat.pow_lt_pow_right (by decide) h
theorem wb_mod (n : Nat) : lN n = lN (n % 2 ^ 64) := wb_inj (by rw [wb_tb, wb_tb]; apply BitVec.eq_of_toNat_eq; rw [BitVec.toNat_ofNat, BitVec.toNat_ofNat, Nat.mod_mod])
theorem wb_shr {n k : Nat} (hn : n < 2 ^ 64) (hk : k < 64) : ((lN n).toUInt64 >>> ((nI k).toInt64.toUInt64 &&& Int64.toUInt64 63)).toInt64 = lN (n / 2 ^ k) := by
  rw [wb_cu k hk]
  apply wb_inj
  apply BitVec.eq_of_toNat_eq
  show ((lN n).toUInt64 >>> UInt64.ofNat k).toNat = (BitVec.ofNat 64 _).toNat
  have h1 : (UInt64.ofNat k).toNat = k := by
    show (BitVec.ofNat 64 k).toNat = k
    rw [BitVec.toNat_ofNat, Nat.mod_eq_of_lt (by omega)]
  have h2 : (lN n).toUInt64.toNat = n := wb_tn hn
  rw [UInt64.toNat_shiftRight, h1, h2, Nat.mod_eq_of_lt hk, Nat.shiftRight_eq_div_pow, BitVec.toNat_ofNat, Nat.mod_eq_of_lt (Nat.lt_of_le_of_lt (Nat.div_le_self _ _) hn)]
theorem wb_shl (n : Nat) {k : Nat} (hk : k < 64) : lN n <<< ((nI k).toInt64 &&& 63) = lN (n * 2 ^ k) := by
  rw [wb_c k hk]
  apply wb_inj
  rw [Int64.toBitVec_shiftLeft, wb_tb, wb_tb, wb_tb, wb_sm k hk]
  apply BitVec.eq_of_toNat_eq
  rw [BitVec.shiftLeft_eq', BitVec.toNat_shiftLeft, BitVec.toNat_ofNat, BitVec.toNat_ofNat, BitVec.toNat_ofNat, Nat.mod_eq_of_lt (show k < 2 ^ 64 by omega), Nat.shiftLeft_eq, Nat.mul_mod, Nat.mod_mod, ← Nat.mul_mod]
theorem wb_and {a b : Nat} (ha : a < 2 ^ 64) (hb : b < 2 ^ 64) : lN a &&& lN b = lN (a &&& b) := by
  apply wb_inj
  rw [Int64.toBitVec_and, wb_tb, wb_tb, wb_tb]
  apply BitVec.eq_of_toNat_eq
  rw [BitVec.toNat_and, BitVec.toNat_ofNat, BitVec.toNat_ofNat, BitVec.toNat_ofNat, Nat.mod_eq_of_lt ha, Nat.mod_eq_of_lt hb, Nat.mod_eq_of_lt (Nat.and_lt_two_pow _ hb)]
theorem wb_or {a b : Nat} (ha : a < 2 ^ 64) (hb : b < 2 ^ 64) : lN a ||| lN b = lN (a ||| b) := by
  apply wb_inj
  rw [Int64.toBitVec_or, wb_tb, wb_tb, wb_tb]
  apply BitVec.eq_of_toNat_eq
  rw [BitVec.toNat_or, BitVec.toNat_ofNat, BitVec.toNat_ofNat, BitVec.toNat_ofNat, Nat.mod_eq_of_lt ha, Nat.mod_eq_of_lt hb, Nat.mod_eq_of_lt (Nat.or_lt_two_pow ha hb)]
theorem wb_mask {n k : Nat} (hn : n < 2 ^ 64) (hk : k < 64) : lN n &&& lN (2 ^ k - 1) = lN (n % 2 ^ k) := by
  rw [wb_and hn (by have := wb_lt2 hk; omega), Nat.and_two_pow_sub_one_eq_mod]
theorem wb_a1 {n : Nat} (hn : n < 2 ^ 64) : lN n &&& 1 = lN (n % 2) := wb_mask (k := 1) hn (by decide)
theorem wb_bit {n k : Nat} (hn : n < 2 ^ 64) (hk : k < 64) : ((lN n).toUInt64 >>> ((nI k).toInt64.toUInt64 &&& Int64.toUInt64 63)).toInt64 &&& 1 = lN (n / 2 ^ k % 2) := by
  rw [wb_shr hn hk, wb_a1 (Nat.lt_of_le_of_lt (Nat.div_le_self _ _) hn)]
theorem wb_xor {q k : Nat} (hk : k < 63) (h : 2 ^ k ≤ q) (h2 : q < 2 ^ (k + 1)) : lN q ^^^ lN (2 ^ k) = lN (q - 2 ^ k) := by
  obtain ⟨r, rfl⟩ : ∃ r, q = 2 ^ k + r := ⟨q - 2 ^ k, by omega⟩
  have hr : r < 2 ^ k := by rw [Nat.pow_succ] at h2; omega
  have hx : (2 ^ k + r) ^^^ 2 ^ k = r := by
    apply Nat.eq_of_testBit_eq
    intro i
    rw [Nat.testBit_xor, Nat.testBit_two_pow]
    rcases Nat.lt_trichotomy i k with h | h | h
    · rw [Nat.testBit_two_pow_add_gt h]
      simp [show ¬ k = i by omega]
    · subst h
      rw [Nat.testBit_two_pow_add_eq]
      simp
    · have a1 : 2 ^ (k + 1) ≤ 2 ^ i := Nat.pow_le_pow_right (by decide) h
      rw [Nat.testBit_lt_two_pow (show 2 ^ k + r < 2 ^ i by omega), Nat.testBit_lt_two_pow (show r < 2 ^ i by omega)]
      simp [show ¬ k = i by omega]
  have b1 := wb_lt2 (show k + 1 < 64 by omega)
  have b2 := wb_lt2 (show k < 64 by omega)
  apply wb_inj
  rw [Int64.toBitVec_xor, wb_tb, wb_tb, wb_tb]
  apply BitVec.eq_of_toNat_eq
  rw [BitVec.toNat_xor, BitVec.toNat_ofNat, BitVec.toNat_ofNat, BitVec.toNat_ofNat, Nat.mod_eq_of_lt (by omega : 2 ^ k + r < 2 ^ 64), Nat.mod_eq_of_lt b2, hx, Nat.add_sub_cancel_left, Nat.mod_eq_of_lt (by omega)]
/-! ===== lN: masks, 'or' of parts that don't overlap is a sum ===== -/
theorem u_tn {n : Nat} (h : n < 2 ^ 64) : (UInt64.ofNat n).toNat = n := Nat.mod_eq_of_lt h
theorem g_and {a b c : Nat} (ha : a < 2 ^ 64) (hb : b < 2 ^ 64) (hc : a &&& b = c) : lN a &&& lN b = lN c := by
  subst hc
  have h : UInt64.ofNat a &&& UInt64.ofNat b = UInt64.ofNat (a &&& b) := UInt64.toNat_inj.mp (by rw [UInt64.toNat_and, u_tn ha, u_tn hb, u_tn (Nat.and_lt_two_pow a hb)])
  have h2 := congrArg UInt64.toInt64 h
  exact h2
theorem g_and1 {a : Nat} (ha : a < 2 ^ 64) : lN a &&& 1 = lN (a % 2) := g_and (b := 1) ha (by decide) (Nat.and_two_pow_sub_one_eq_mod a 1)
theorem g_mask {a s p : Nat} (hp : 2 ^ s = p) (hs : s < 64) (ha : a < 2 ^ 64) : lN a &&& lN (p - 1) = lN (a % p) := by
  subst hp
  have := Nat.pow_lt_pow_right (show 1 < 2 by decide) hs
  exact g_and ha (by omega) (Nat.and_two_pow_sub_one_eq_mod a s)
theorem g_or {k p a b : Nat} (hp : 2 ^ k = p) (ha : a < p) (h : b * p + a < 2 ^ 64) : lN (b * p) ||| lN a = lN (b * p + a) := by
  subst hp
  have h1 : b * 2 ^ k ||| a = b * 2 ^ k + a := by rw [← Nat.shiftLeft_eq, Nat.shiftLeft_add_eq_or_of_lt ha]
  have h3 : UInt64.ofNat (b * 2 ^ k) ||| UInt64.ofNat a = UInt64.ofNat (b * 2 ^ k + a) := UInt64.toNat_inj.mp (by rw [UInt64.toNat_or, u_tn (by omega), u_tn (by omega), u_tn h, h1])
  have h2 := congrArg UInt64.toInt64 h3
  exact h2
theorem g_or' {k p a b : Nat} (hp : 2 ^ k = p) (ha : a < p) (h : a + b * p < 2 ^ 64) : lN a ||| lN (b * p) = lN (a + b * p) := by
  rw [Int64.or_comm, g_or hp ha (by omega), Nat.add_comm]
theorem g_ushr {a k p : Nat} {y : UInt64} (hy : y = UInt64.ofNat k) (hk : k < 64) (hp : 2 ^ k = p) (ha : a < 2 ^ 64) : ((lN a).toUInt64 >>> y).toInt64 = lN (a / p) := by
  subst hy hp
  have h : UInt64.ofNat a >>> UInt64.ofNat k = UInt64.ofNat (a / 2 ^ k) := UInt64.toNat_inj.mp (by rw [UInt64.toNat_shiftRight, u_tn ha, u_tn (by omega), u_tn (Nat.lt_of_le_of_lt (Nat.div_le_self _ _) ha), Nat.mod_eq_of_lt hk, Nat.shiftRight_eq_div_pow])
  have h2 := congrArg UInt64.toInt64 h
  exact h2
theorem g_shl {a k p : Nat} {y : Int64} (hy : y.toBitVec.smod 64 = BitVec.ofNat 64 k) (hk : k < 64) (hp : 2 ^ k = p) (ha : a < 2 ^ 64) : lN a <<< y = lN (a * p) := by
  subst hp
  apply Int64.toBitVec_inj.mp
  rw [Int64.toBitVec_shiftLeft, hy]
  apply BitVec.eq_of_toNat_eq
  have hb : (lN a).toBitVec.toNat = a := Nat.mod_eq_of_lt ha
  have hk' : (BitVec.ofNat 64 k).toNat = k := Nat.mod_eq_of_lt (by omega)
  have h : ((lN a).toBitVec <<< BitVec.ofNat 64 k).toNat = (a * 2 ^ k) % 2 ^ 64 := by simp only [BitVec.shiftLeft_eq', BitVec.toNat_shiftLeft, hb, hk', Nat.shiftLeft_eq]
  exact h
/-! ===== lN to 2^62 under >> and >>> ===== -/
theorem pf_lI {a : Nat} (h : a < 2 ^ 63) : (lN a).toInt = (a : Int) := lg_ofNat_toInt h
theorem pf_shr {a d : Nat} {D : Int64} (hD : (D.toBitVec.smod 64).toNat = d) (h : a < 2 ^ 62) : lN a >>> D = lN (a / 2 ^ d) := by
  have hd : a / 2 ^ d ≤ a := Nat.div_le_self _ _
  apply Int64.toInt_inj.mp
  have e : (lN a >>> D).toInt = (lN a).toInt >>> d := by
    rw [← hD]
    exact BitVec.toInt_sshiftRight ..
  rw [e, Int.shiftRight_eq_div_pow, pf_lI (by omega), pf_lI (by omega)]
  rfl
theorem pf_ushr {a d : Nat} {D : UInt64} (hD : D.toNat % 64 = d) (h : a < 2 ^ 62) : ((lN a).toUInt64 >>> D).toInt64 = lN (a / 2 ^ d) := by
  have hd : a / 2 ^ d ≤ a := Nat.div_le_self _ _
  have e : (lN a).toUInt64 >>> D = UInt64.ofNat (a / 2 ^ d) := UInt64.toNat_inj.mp (by
    rw [UInt64.toNat_shiftRight, hD, Nat.shiftRight_eq_div_pow, UInt64.toNat_ofNat']
    show (UInt64.ofNat a).toNat / 2 ^ d = _
    rw [UInt64.toNat_ofNat', Nat.mod_eq_of_lt (by omega), Nat.mod_eq_of_lt (by omega)])
  rw [e]
  rfl
theorem pf_andw (x : Int64) : ∃ m, m < 2 ^ 32 ∧ x &&& 4294967295 = lN m := ⟨x.toBitVec.toNat % 2 ^ 32, Nat.mod_lt _ (by decide), Int64.toBitVec_inj.mp (BitVec.eq_of_toNat_eq (by
  show (x.toBitVec &&& 4294967295#64).toNat = (BitVec.ofNat 64 (x.toBitVec.toNat % 2 ^ 32)).toNat
  rw [BitVec.toNat_and, show (4294967295#64).toNat = 2 ^ 32 - 1 from by decide, Nat.and_two_pow_sub_one_eq_mod, BitVec.toNat_ofNat]
  omega))⟩
end
section
/-! RollingSync$Row: bytes in a row, as a list -/
theorem Out_refl {P : Nat → Prop} {h : Hp} : ∀ a, ¬ P a → h.1 a = h.1 a := fun _ _ => rfl
def RowL (sh : List Sh) (h : Hp) (r c m : Nat) (xs : List Nat) : Prop := sh[r]? = some (.inr 3) ∧ h.2.2 r 0 = some c ∧ sh[c]? = some (.inl (.int, m)) ∧ h.1 r 1 = nI xs.length ∧ xs.length ≤ m ∧ m ≤ 500 ∧ ∀ j, j < xs.length → h.1 c j = nI (xs.getD j 0)
theorem RowL.ne {sh : List Sh} {h : Hp} {r c m : Nat} {xs : List Nat} (R : RowL sh h r c m xs) : r ≠ c := by
  intro e
  have h1 := R.1
  rw [e, R.2.2.1] at h1
  cases h1
/-- what a row's methods leave alone -/
def RowF (h h' : Hp) (r c : Nat) : Prop := h'.2 = h.2 ∧ ∀ a, a ≠ r → a ≠ c → h'.1 a = h.1 a
theorem RowF.rf {h : Hp} {r c : Nat} : RowF h h r c := ⟨rfl, fun _ _ _ => rfl⟩
theorem RowF.tr {h h1 h2 : Hp} {r c : Nat} (a : RowF h h1 r c) (b : RowF h1 h2 r c) : RowF h h2 r c := ⟨b.1.trans a.1, fun x p q => (b.2 x p q).trans (a.2 x p q)⟩
theorem RowL.keep {sh : List Sh} {h h' : Hp} {r c m : Nat} {xs : List Nat} (R : RowL sh h r c m xs) (h1 : h'.1 r = h.1 r) (h2 : h'.1 c = h.1 c) (h3 : h'.2.2 r = h.2.2 r) : RowL sh h' r c m xs := by
  obtain ⟨a1, a2, a3, a4, a5, a6, a7⟩ := R
  exact ⟨a1, by rw [h3]; exact a2, a3, by rw [h1]; exact a4, a5, a6, fun j hj => by rw [h2]; exact a7 j hj⟩
theorem RowL.other {sh : List Sh} {h h' : Hp} {r c m r2 c2 : Nat} {xs : List Nat} (R : RowL sh h r c m xs) (F : RowF h h' r2 c2) (n1 : r ≠ r2) (n2 : r ≠ c2) (n3 : c ≠ r2) (n4 : c ≠ c2) : RowL sh h' r c m xs := R.keep (F.2 r n1 n2) (F.2 c n3 n4) (by rw [F.1])
theorem i_lt {x y : Int32} : x < y ↔ x.toInt < y.toInt := Int32.lt_iff_toInt_lt
theorem i_le {x y : Int32} : x ≤ y ↔ x.toInt ≤ y.toInt := Int32.le_iff_toInt_le
theorem i_0 : (0 : Int32).toInt = 0 := by decide
theorem cl_toInt {x : Int32} (h : ¬ x < 0) : (x.toNatClampNeg : Int) = x.toInt := by
  obtain ⟨j, hj, rfl⟩ := nI_of h
  rw [nI_clamp hj, nI_toInt hj]
theorem in_of {x : Int32} {n : Nat} (h0 : ¬ x < 0) (h1 : x.toInt < n) : vp_in x n := by
  intro h
  rcases h with h | h
  · exact h0 h
  · have := cl_toInt h0
    omega
theorem nI_inc (i : Nat) : nI i + Int32.ofInt 1 = nI (i + 1) := nI_1 i
def gI (xs : List Nat) (i : Int32) : Int32 := if 0 ≤ i.toInt ∧ i.toInt < xs.length then nI (xs.getD i.toNatClampNeg 0) else -1
def rset (xs : List Nat) (j b m : Nat) : List Nat := if j < xs.length then xs.set j b else if j < m then xs ++ [b] else xs
theorem c_Row_count {sh : List Sh} {h : Hp} {r : Nat} (hr : sh[r]? = some (.inr 3)) : Sp0 mX3_count [.ref r] sh h (fun v h' => v = some (.int (h.1 r 1)) ∧ h' = h) := by
  refine Sp0.of (by decide) (Nat.le_of_ble_eq_true rfl) ?_
  show E mX3_count none _ 0 [some (.ref r)] [] sh h 0 0
  refine E_aload_n dX3_count_0 rfl ?_
  refine E_getI dX3_count_1 fl_X3_21 (by first | assumption | rfl) rfl ?_
  exact E_reti dX3_count_4 rfl rfl (Nat.le_of_ble_eq_true rfl) (Nat.le_of_ble_eq_true rfl) ⟨rfl, rfl, rfl⟩
theorem c_Row_get {sh : List Sh} {h : Hp} {r c m : Nat} {xs : List Nat} (R : RowL sh h r c m xs) (i : Int32) : Sp0 mX3_get [.ref r, .int i] sh h (fun v h' => v = some (.int (gI xs i)) ∧ h' = h) := by
  obtain ⟨hr, hc, hs, hn, hm, hm5, hx⟩ := R
  have hL : (nI xs.length).toInt = xs.length := nI_toInt (by omega)
  refine Sp0.of (by decide) (Nat.le_of_ble_eq_true rfl) ?_
  show E mX3_get none _ 0 [some (.ref r), some (.int i)] [] sh h 0 0
  refine E_iload_n dX3_get_0 rfl ?_
  refine E_if_lt 21 dX3_get_1 (by decide) (fun c_1 => ?_) (fun c_1 => ?_)
  · refine E_ic (-1) dX3_get_21 (by decide) ?_
    exact E_reti dX3_get_22 rfl rfl (Nat.le_of_ble_eq_true rfl) (Nat.le_of_ble_eq_true rfl) ⟨rfl, by rw [gI, if_neg (by rw [i_lt, i_0] at c_1; omega)], rfl⟩
  · refine E_iload_n dX3_get_4 rfl ?_
    refine E_aload_n dX3_get_5 rfl ?_
    refine E_getI dX3_get_6 fl_X3_21 (by first | assumption | rfl) rfl ?_
    refine E_icmp_ge 21 dX3_get_9 (by decide) (fun c_9 => ?_) (fun c_9 => ?_)
    · refine E_ic (-1) dX3_get_21 (by decide) ?_
      exact E_reti dX3_get_22 rfl rfl (Nat.le_of_ble_eq_true rfl) (Nat.le_of_ble_eq_true rfl) ⟨rfl, by rw [gI, if_neg (by rw [hn, i_le, hL] at c_9; omega)], rfl⟩
    · refine E_aload_n dX3_get_12 rfl ?_
      refine E_getR dX3_get_13 fl_X3_15 (by first | assumption | rfl) (by assumption) rfl ?_
      refine E_iload_n dX3_get_16 rfl ?_
      have hi0 := cl_toInt c_1
      have hi1 : i.toInt < xs.length := by rw [hn, i_le, hL] at c_9; omega
      refine E_iald dX3_get_17 (by first | assumption | rfl) (in_of c_1 (by omega)) ?_
      refine E_goto 22 dX3_get_18 (by decide) ?_
      exact E_reti dX3_get_22 rfl rfl (Nat.le_of_ble_eq_true rfl) (Nat.le_of_ble_eq_true rfl) ⟨rfl, by rw [gI, if_pos (by omega), hx _ (by omega)], rfl⟩
theorem c_Row_holds {sh : List Sh} {h : Hp} {r c m : Nat} {xs : List Nat} (R : RowL sh h r c m xs) (f n : Int32) : Sp0 mX3_holds [.ref r, .int f, .int n] sh h (fun v h' => v = some (.int (if 0 ≤ f.toInt ∧ 0 ≤ n.toInt ∧ f.toInt + n.toInt ≤ xs.length then 1 else 0)) ∧ h' = h) := by
  obtain ⟨hr, hc, hs, hn, hm, hm5, hx⟩ := R
  have hL : (nI xs.length).toInt = xs.length := nI_toInt (by omega)
  refine Sp0.of (by decide) (Nat.le_of_ble_eq_true rfl) ?_
  show E mX3_holds none _ 0 [some (.ref r), some (.int f), some (.int n)] [] sh h 0 0
  refine E_iload_n dX3_holds_0 rfl ?_
  refine E_if_lt 30 dX3_holds_1 (by decide) (fun c_1 => ?_) (fun c_1 => ?_)
  · refine E_ic 0 dX3_holds_30 (by decide) ?_
    exact E_reti dX3_holds_31 rfl rfl (Nat.le_of_ble_eq_true rfl) (Nat.le_of_ble_eq_true rfl) ⟨rfl, by rw [if_neg (by rw [i_lt, i_0] at c_1; omega)], rfl⟩
  · refine E_iload_n dX3_holds_4 rfl ?_
    refine E_if_lt 30 dX3_holds_5 (by decide) (fun c_5 => ?_) (fun c_5 => ?_)
    · refine E_ic 0 dX3_holds_30 (by decide) ?_
      exact E_reti dX3_holds_31 rfl rfl (Nat.le_of_ble_eq_true rfl) (Nat.le_of_ble_eq_true rfl) ⟨rfl, by rw [if_neg (by rw [i_lt, i_0] at c_5; omega)], rfl⟩
    · refine E_iload_n dX3_holds_8 rfl ?_
      refine E_aload_n dX3_holds_9 rfl ?_
      refine E_getI dX3_holds_10 fl_X3_21 (by first | assumption | rfl) rfl ?_
      refine E_icmp_gt 30 dX3_holds_13 (by decide) (fun c_13 => ?_) (fun c_13 => ?_)
      · refine E_ic 0 dX3_holds_30 (by decide) ?_
        exact E_reti dX3_holds_31 rfl rfl (Nat.le_of_ble_eq_true rfl) (Nat.le_of_ble_eq_true rfl) ⟨rfl, by rw [if_neg (by rw [hn, i_lt, hL] at c_13; rw [i_lt, i_0] at c_1; omega)], rfl⟩
      · refine E_iload_n dX3_holds_16 rfl ?_
        refine E_aload_n dX3_holds_17 rfl ?_
        refine E_getI dX3_holds_18 fl_X3_21 (by first | assumption | rfl) rfl ?_
        refine E_iload_n dX3_holds_21 rfl ?_
        refine E_isub dX3_holds_22 ?_
        have hb : (nI xs.length - n).toInt = xs.length - n.toInt := by
          rw [hn, i_lt, hL] at c_13
          rw [i_lt, i_0] at c_5
          obtain ⟨k, hk, rfl⟩ := nI_of2 (x := n) (M := nI xs.length) hL (by rw [i_lt, i_0]; omega) (by rw [i_le, hL]; omega)
          rw [pk_sub hk, nI_toInt (by omega), nI_toInt (by omega)]; omega
        refine E_icmp_gt 30 dX3_holds_23 (by decide) (fun c_23 => ?_) (fun c_23 => ?_)
        · refine E_ic 0 dX3_holds_30 (by decide) ?_
          exact E_reti dX3_holds_31 rfl rfl (Nat.le_of_ble_eq_true rfl) (Nat.le_of_ble_eq_true rfl) ⟨rfl, by rw [if_neg (by rw [hn, i_lt, hb] at c_23; omega)], rfl⟩
        · refine E_ic 1 dX3_holds_26 (by decide) ?_
          refine E_goto 31 dX3_holds_27 (by decide) ?_
          exact E_reti dX3_holds_31 rfl rfl (Nat.le_of_ble_eq_true rfl) (Nat.le_of_ble_eq_true rfl) ⟨rfl, by rw [if_pos (by rw [hn, i_lt, hb] at c_23; rw [i_lt, i_0] at c_1 c_5; omega)], rfl⟩
theorem rset_len (xs : List Nat) (j b m : Nat) (hm : xs.length ≤ m) : (rset xs j b m).length ≤ m := by
  unfold rset
  split
  · simpa using hm
  · split
    · simp; omega
    · exact hm
theorem RowL.put {sh : List Sh} {h : Hp} {r c m : Nat} {xs : List Nat} (R : RowL sh h r c m xs) {j b : Nat} (hj : j < xs.length) : RowL sh (sI h c j (nI b)) r c m (xs.set j b) := by
  have hne := R.ne
  obtain ⟨hr, hc, hs, hn, hm, hm5, hx⟩ := R
  refine ⟨hr, hc, hs, by simp [sI, u2, hne, hn], by simpa using hm, hm5, fun i hi => ?_⟩
  simp at hi
  by_cases e : i = j
  · subst e
    simp [sI, u2, List.getD, hi]
  · have h1 := hx i hi
    simp [sI, u2, e, List.getD, Ne.symm e] at h1 ⊢
    exact h1
theorem RowL.push {sh : List Sh} {h : Hp} {r c m : Nat} {xs : List Nat} (R : RowL sh h r c m xs) {b : Nat} (hj : xs.length < m) : RowL sh (sI (sI h c xs.length (nI b)) r 1 (nI (xs.length + 1))) r c m (xs ++ [b]) := by
  have hne := R.ne
  obtain ⟨hr, hc, hs, hn, hm, hm5, hx⟩ := R
  refine ⟨hr, hc, hs, by simp [sI, u2], by simp; omega, hm5, fun i hi => ?_⟩
  simp at hi
  by_cases e : i = xs.length
  · subst e
    simp [sI, u2, List.getD, Ne.symm hne]
  · have h1 := hx i (by omega)
    have h2 : i < xs.length := by omega
    simp [sI, u2, e, List.getD, h2, Ne.symm hne, List.getElem?_append_left h2] at h1 ⊢
    exact h1
theorem c_Row_set {sh : List Sh} {h : Hp} {r c m : Nat} {xs : List Nat} (R : RowL sh h r c m xs) {j b : Nat} (hj : j ≤ xs.length) : Sp0 mX3_set [.ref r, .int (nI j), .int (nI b)] sh h (fun v h' => v = none ∧ RowL sh h' r c m (rset xs j b m) ∧ RowF h h' r c) := by
  have R0 := R
  obtain ⟨hr, hc, hs, hn, hm, hm5, hx⟩ := R
  have hne := R0.ne
  have hL : (nI xs.length).toInt = xs.length := nI_toInt (by omega)
  have hJ : (nI j).toInt = j := nI_toInt (by omega)
  have hM : (nI m).toInt = m := nI_toInt (by omega)
  have hcl : (nI j).toNatClampNeg = j := nI_clamp (by omega)
  refine Sp0.of (by decide) (Nat.le_of_ble_eq_true rfl) ?_
  show E mX3_set none _ 0 [some (.ref r), some (.int (nI j)), some (.int (nI b))] [] sh h 0 0
  refine E_iload_n dX3_set_0 rfl ?_
  refine E_if_lt 21 dX3_set_1 (by decide) (fun c_1 => absurd c_1 (by rw [i_lt, i_0]; omega)) (fun c_1 => ?_)
  refine E_iload_n dX3_set_4 rfl ?_
  refine E_aload_n dX3_set_5 rfl ?_
  refine E_getI dX3_set_6 fl_X3_21 (by first | assumption | rfl) rfl ?_
  refine E_icmp_gt 21 dX3_set_9 (by decide) (fun c_9 => absurd c_9 (by rw [hn, i_lt]; omega)) (fun c_9 => ?_)
  refine E_iload_n dX3_set_12 rfl ?_
  refine E_aload_n dX3_set_13 rfl ?_
  refine E_getR dX3_set_14 fl_X3_15 (by first | assumption | rfl) (by assumption) rfl ?_
  refine E_alen dX3_set_17 (by first | assumption | rfl) (by simp) ?_
  refine E_icmp_lt 22 dX3_set_18 (by decide) (fun c_18 => ?_) (fun c_18 => ?_)
  · refine E_aload_n dX3_set_22 rfl ?_
    refine E_getR dX3_set_23 fl_X3_15 (by first | assumption | rfl) (by assumption) rfl ?_
    refine E_iload_n dX3_set_26 rfl ?_
    refine E_iload_n dX3_set_27 rfl ?_
    refine E_iast dX3_set_28 (by first | assumption | rfl) (by rw [i_lt, hJ, hM] at c_18; exact vp_in_nI (by omega) (by omega)) ?_
    rw [i_lt, hJ, hM] at c_18
    rw [hcl]
    refine E_iload_n dX3_set_29 rfl ?_
    refine E_aload_n dX3_set_30 rfl ?_
    refine E_getI dX3_set_31 fl_X3_21 (by first | assumption | rfl) rfl ?_
    rw [show (sI h c j (nI b)).1 r 1 = nI xs.length by simp [sI, u2, hne, hn]]
    refine E_icmp_ne 47 dX3_set_34 (by decide) (fun c_34 => ?_) (fun c_34 => ?_)
    · refine E_retv dX3_set_47 rfl (Nat.le_of_ble_eq_true rfl) (Nat.le_of_ble_eq_true rfl) ?_
      have hlt : j < xs.length := by
        rcases Nat.lt_or_ge j xs.length with q | q
        · exact q
        · exact absurd (by rw [show j = xs.length by omega]) c_34
      refine ⟨rfl, rfl, ?_, rfl, fun a h1 h2 => by funext k; simp [sI, u2, h2]⟩
      rw [rset, if_pos hlt]
      exact R0.put hlt
    · refine E_aload_n dX3_set_37 rfl ?_
      refine E_dup rfl dX3_set_38 ?_
      refine E_getI dX3_set_39 fl_X3_21 (by first | assumption | rfl) rfl ?_
      refine E_ic 1 dX3_set_42 (by decide) ?_
      refine E_iadd dX3_set_43 ?_
      refine E_putI dX3_set_44 fl_X3_21 (by first | assumption | rfl) rfl ?_
      refine E_retv dX3_set_47 rfl (Nat.le_of_ble_eq_true rfl) (Nat.le_of_ble_eq_true rfl) ?_
      have e : j = xs.length := (nI_eq (by omega) (by omega)).mp c_34
      subst e
      refine ⟨rfl, rfl, ?_, rfl, fun a h1 h2 => by funext k; simp [sI, u2, h1, h2]⟩
      rw [rset, if_neg (by omega), if_pos (by omega), show (sI h c xs.length (nI b)).1 r 1 = nI xs.length by simp [sI, u2, hne, hn], nI_1]
      exact R0.push (by omega)
  · exact E_retv dX3_set_21 rfl (Nat.le_of_ble_eq_true rfl) (Nat.le_of_ble_eq_true rfl) ⟨rfl, rfl, by rw [i_lt, hJ, hM] at c_18; rw [rset, if_neg (by omega), if_neg (by omega)]; exact R0, RowF.rf⟩
theorem c_Row_add {sh : List Sh} {h : Hp} {r c m : Nat} {xs : List Nat} (R : RowL sh h r c m xs) (b : Nat) : Sp0 mX3_add [.ref r, .int (nI b)] sh h (fun v h' => v = none ∧ RowL sh h' r c m (rset xs xs.length b m) ∧ RowF h h' r c) := by
  have hr := R.1
  have hn := R.2.2.2.1
  refine Sp0.of (by decide) (Nat.le_of_ble_eq_true rfl) ?_
  show E mX3_add none _ 0 [some (.ref r), some (.int (nI b))] [] sh h 0 0
  refine E_aload_n dX3_add_0 rfl ?_
  refine E_aload_n dX3_add_1 rfl ?_
  refine E_getI dX3_add_2 fl_X3_21 (by first | assumption | rfl) rfl ?_
  refine E_iload_n dX3_add_5 rfl ?_
  rw [hn]
  refine cV2 (N := mX3_set) dX3_add_6 cn_X3_set lk_X3_25 ⟨Nat.le_of_ble_eq_true rfl, Nat.le_of_ble_eq_true rfl⟩ (by first | assumption | rfl) rfl (Nat.le_of_ble_eq_true rfl) ⟨rfl, rfl⟩ (c_Row_set R (Nat.le_refl _)) (fun v2 h2 ⟨hv2, hq2⟩ => ?_)
  subst hv2
  exact E_retv dX3_add_9 rfl (Nat.le_of_ble_eq_true rfl) (Nat.le_of_ble_eq_true rfl) ⟨rfl, rfl, hq2⟩
theorem c_Row_keep {sh : List Sh} {h : Hp} {r c m : Nat} {xs : List Nat} (R : RowL sh h r c m xs) {k : Nat} (hk : k ≤ 500) : Sp0 mX3_keep [.ref r, .int (nI k)] sh h (fun v h' => v = none ∧ RowL sh h' r c m (xs.take k) ∧ RowF h h' r c) := by
  have R0 := R
  have hne := R.ne
  obtain ⟨hr, hc, hs, hn, hm, hm5, hx⟩ := R
  have hL : (nI xs.length).toInt = xs.length := nI_toInt (by omega)
  have hJ : (nI k).toInt = k := nI_toInt (by omega)
  refine Sp0.of (by decide) (Nat.le_of_ble_eq_true rfl) ?_
  show E mX3_keep none _ 0 [some (.ref r), some (.int (nI k))] [] sh h 0 0
  refine E_iload_n dX3_keep_0 rfl ?_
  refine E_if_lt 17 dX3_keep_1 (by decide) (fun c_1 => absurd c_1 (by rw [i_lt, i_0]; omega)) (fun c_1 => ?_)
  refine E_iload_n dX3_keep_4 rfl ?_
  refine E_aload_n dX3_keep_5 rfl ?_
  refine E_getI dX3_keep_6 fl_X3_21 (by first | assumption | rfl) rfl ?_
  refine E_icmp_ge 17 dX3_keep_9 (by decide) (fun c_9 => ?_) (fun c_9 => ?_)
  · refine E_retv dX3_keep_17 rfl (Nat.le_of_ble_eq_true rfl) (Nat.le_of_ble_eq_true rfl) ?_
    rw [hn, i_le] at c_9
    rw [List.take_of_length_le (by omega)]
    exact ⟨rfl, rfl, R0, RowF.rf⟩
  · refine E_aload_n dX3_keep_12 rfl ?_
    refine E_iload_n dX3_keep_13 rfl ?_
    refine E_putI dX3_keep_14 fl_X3_21 (by first | assumption | rfl) rfl ?_
    refine E_retv dX3_keep_17 rfl (Nat.le_of_ble_eq_true rfl) (Nat.le_of_ble_eq_true rfl) ?_
    rw [hn, i_le] at c_9
    refine ⟨rfl, rfl, ⟨hr, hc, hs, by simp [sI, u2]; congr 1; omega, by simp; omega, hm5, fun i hi => ?_⟩, rfl, fun a h1 h2 => by funext k; simp [sI, u2, h1]⟩
    simp at hi
    have h1 := hx i (by omega)
    have h2 : i < k := by omega
    simp [sI, u2, List.getD, Ne.symm hne, List.getElem?_take, h2] at h1 ⊢
    exact h1
theorem rset_take (zs : List Nat) (b m : Nat) : rset (zs.take m) (zs.take m).length b m = (zs ++ [b]).take m := by
  rw [rset, if_neg (Nat.lt_irrefl _)]
  by_cases hl : zs.length < m
  · rw [List.take_of_length_le (Nat.le_of_lt hl), if_pos hl, List.take_of_length_le (by simp; omega)]
  · rw [if_neg (by simp; omega), List.take_append_of_le_length (by omega)]
theorem addAll_step {xs ys : List Nat} {i m : Nat} (hlt : i < ys.length) : rset ((xs ++ ys.take i).take m) ((xs ++ ys.take i).take m).length (ys.getD i 0) m = (xs ++ ys.take (i + 1)).take m := by
  have e1 : ys.take (i + 1) = ys.take i ++ [ys.getD i 0] := by
    rw [List.take_add_one]
    simp [List.getD, hlt]
  rw [rset_take, e1, List.append_assoc]
theorem c_Row_addAll {sh : List Sh} {h : Hp} {r c m r2 c2 m2 : Nat} {xs ys : List Nat} (R : RowL sh h r c m xs) (S : RowL sh h r2 c2 m2 ys) (n1 : r2 ≠ r) (n4 : c2 ≠ c) : Sp0 mX3_addAll [.ref r, .ref r2] sh h (fun v h' => v = none ∧ RowL sh h' r c m ((xs ++ ys).take m) ∧ RowF h h' r c) := by
  have n2 : r2 ≠ c := by
    intro e
    have h1 := S.1
    rw [e, R.2.2.1] at h1
    cases h1
  have n3 : c2 ≠ r := by
    intro e
    have h1 := R.1
    rw [← e, S.2.2.1] at h1
    cases h1
  refine Sp0.of (by decide) (Nat.le_of_ble_eq_true rfl) ?_
  show E mX3_addAll none _ 0 [some (.ref r), some (.ref r2), none] [] sh h 0 0
  have loop : ∀ (n i : Nat) (h' : Hp), ys.length - i ≤ n → i ≤ ys.length → RowL sh h' r c m ((xs ++ ys.take i).take m) → RowF h h' r c → E mX3_addAll none (fun v sh' h' => sh' = sh ∧ v = none ∧ RowL sh h' r c m ((xs ++ ys).take m) ∧ RowF h h' r c) 2 [some (.ref r), some (.ref r2), some (.int (nI i))] [] sh h' 0 0 := by
    intro n
    induction n with
    | zero =>
      intro i h' h1 h2 R1 F1
      have S1 := S.other F1 n1 n2 n3 n4
      obtain ⟨hr2, hc2, hs2, hn2, hm2, hm52, hx2⟩ := S1
      refine E_iload_n dX3_addAll_2 rfl ?_
      refine E_aload_n dX3_addAll_3 rfl ?_
      refine E_getI dX3_addAll_4 fl_X3_21 (by first | assumption | rfl) rfl ?_
      refine E_icmp_ge 30 dX3_addAll_7 (by decide) (fun c_7 => ?_) (fun c_7 => absurd (by rw [hn2]; exact nI_le (by omega) (by omega)) c_7)
      exact E_retv dX3_addAll_30 rfl (Nat.le_of_ble_eq_true rfl) (Nat.le_of_ble_eq_true rfl) ⟨rfl, rfl, by rw [List.take_of_length_le (l := ys) (by omega)] at R1; exact R1, F1⟩
    | succ n ih =>
      intro i h' h1 h2 R1 F1
      have S1 := S.other F1 n1 n2 n3 n4
      have hr := R1.1
      have hn := R1.2.2.2.1
      obtain ⟨hr2, hc2, hs2, hn2, hm2, hm52, hx2⟩ := S1
      refine E_iload_n dX3_addAll_2 rfl ?_
      refine E_aload_n dX3_addAll_3 rfl ?_
      refine E_getI dX3_addAll_4 fl_X3_21 (by first | assumption | rfl) rfl ?_
      refine E_icmp_ge 30 dX3_addAll_7 (by decide) (fun c_7 => ?_) (fun c_7 => ?_)
      · exact E_retv dX3_addAll_30 rfl (Nat.le_of_ble_eq_true rfl) (Nat.le_of_ble_eq_true rfl) ⟨rfl, rfl, by rw [List.take_of_length_le (l := ys) (by rw [hn2] at c_7; have := (nI_leI (by omega) (by omega)).mp c_7; omega)] at R1; exact R1, F1⟩
      · refine E_aload_n dX3_addAll_10 rfl ?_
        refine E_aload_n dX3_addAll_11 rfl ?_
        refine E_getI dX3_addAll_12 fl_X3_21 (by first | assumption | rfl) rfl ?_
        refine E_aload_n dX3_addAll_15 rfl ?_
        refine E_getR dX3_addAll_16 fl_X3_15 (by first | assumption | rfl) (by assumption) rfl ?_
        refine E_iload_n dX3_addAll_19 rfl ?_
        have hlt : i < ys.length := by
          rcases Nat.lt_or_ge i ys.length with q | q
          · exact q
          · exact absurd (by rw [hn2]; exact nI_le (by omega) (by omega)) c_7
        refine E_iald dX3_addAll_20 (by first | assumption | rfl) (vp_in_nI (by omega) (by omega)) ?_
        rw [nI_clamp (by omega), hx2 i hlt, hn]
        refine cV2 (N := mX3_set) dX3_addAll_21 cn_X3_set lk_X3_25 ⟨Nat.le_of_ble_eq_true rfl, Nat.le_of_ble_eq_true rfl⟩ (by first | assumption | rfl) rfl (Nat.le_of_ble_eq_true rfl) ⟨rfl, rfl⟩ (c_Row_set R1 (Nat.le_refl _)) (fun v2 h2 ⟨hv2, R2, F2⟩ => ?_)
        subst hv2
        refine E_iinc dX3_addAll_24 rfl (by decide) ?_
        refine E_goto 2 dX3_addAll_27 (by decide) ?_
        rw [nI_inc]
        refine ih (i + 1) h2 (by omega) (by omega) ?_ (F1.tr F2)
        rw [addAll_step hlt] at R2
        exact R2
  refine E_ic 0 dX3_addAll_0 (by decide) ?_
  refine E_istore_n dX3_addAll_1 (by decide) ?_
  exact loop ys.length 0 h (by omega) (by omega) (by simpa [List.take_of_length_le R.2.2.2.2.1] using R) RowF.rf
end
section
/-! digests and weak sums of rows -/
def dgP : Int64 := 1099511628211
def dgE : Int64 := -3750763034362895579
def dstep (d : Int64) (b : Nat) : Int64 := (d ^^^ (nI b).toInt64) * dgP
def dig (xs : List Nat) : Int64 := xs.foldl dstep dgE
theorem take_s {ys : List Nat} {t : Nat} (h : t < ys.length) : ys.take (t + 1) = ys.take t ++ [ys.getD t 0] := by
  rw [List.take_add_one]
  simp [List.getD, h]
theorem fold_take {ys : List Nat} {t : Nat} (h : t < ys.length) : (ys.take (t + 1)).foldl dstep dgE = dstep ((ys.take t).foldl dstep dgE) (ys.getD t 0) := by
  rw [take_s h, List.foldl_append]
  rfl
def pS (f : Nat → Nat) : Nat → Nat
  | 0 => 0
  | t + 1 => pS f t + f t
def wS (k : Nat) (f : Nat → Nat) : Nat → Nat
  | 0 => 0
  | t + 1 => wS k f t + (k - t) * f t
def wk (k : Nat) (f : Nat → Nat) : Nat := pS f k % 65536 + 65536 * (wS k f k % 65536)
theorem pS_le {f : Nat → Nat} (hf : ∀ j, f j < 256) : ∀ t, pS f t ≤ 255 * t
  | 0 => by simp [pS]
  | t + 1 => by have := pS_le hf t; have := hf t; simp [pS]; omega
theorem wS_le {f : Nat → Nat} {k : Nat} (hk : k ≤ 64) (hf : ∀ j, f j < 256) : ∀ t, wS k f t ≤ 16320 * t
  | 0 => by simp [wS]
  | t + 1 => by
    have h1 := wS_le hk hf t
    have h2 : (k - t) * f t ≤ 64 * 255 := Nat.mul_le_mul (by omega) (by have := hf t; omega)
    simp [wS]; omega
theorem wk_long {p w : Nat} (hp : p < 2 ^ 31) (hw : w < 2 ^ 31) : (((nI w).toInt64 &&& 65535) <<< ((16 : Int32).toInt64 &&& 63)) ||| ((nI p).toInt64 &&& 65535) = lN (p % 65536 + 65536 * (w % 65536)) := by
  rw [nI_l hp, nI_l hw]
  have e1 := wb_mask (n := w) (k := 16) (by omega) (by decide)
  have e2 := wb_mask (n := p) (k := 16) (by omega) (by decide)
  have e3 : (lN (2 ^ 16 - 1) : Int64) = 65535 := by decide
  rw [e3] at e1 e2
  rw [e1, e2]
  have e4 := wb_shl (w % 2 ^ 16) (k := 16) (by decide)
  rw [show (nI 16 : Int32) = 16 by decide] at e4
  rw [e4]
  rw [g_or (k := 16) (p := 65536) (a := p % 2 ^ 16) (b := w % 2 ^ 16) rfl (by omega) (by omega)]
  congr 1
  omega
theorem c_Row_digestOf {sh : List Sh} {h : Hp} {r c m : Nat} {xs : List Nat} (R : RowL sh h r c m xs) {a k : Nat} (ha : a ≤ 1000) (hk : k ≤ 1000) : Sp0 mX3_digestOf [.ref r, .int (nI a), .int (nI k)] sh h (fun v h' => v = some (.long (dig ((xs.drop a).take k))) ∧ h' = h) := by
  obtain ⟨hr, hc, hs, hn, hm, hm5, hx⟩ := R
  refine Sp0.of (by decide) (Nat.le_of_ble_eq_true rfl) ?_
  show E mX3_digestOf none _ 0 [some (.ref r), some (.int (nI a)), some (.int (nI k)), none, none, none] [] sh h 0 0
  have loop : ∀ (n t : Nat), k - t ≤ n → t ≤ k → (0 < t → a + t ≤ xs.length) → E mX3_digestOf none (fun v sh' h' => sh' = sh ∧ v = some (.long (dig ((xs.drop a).take k))) ∧ h' = h) 7 [some (.ref r), some (.int (nI a)), some (.int (nI k)), some (.long (((xs.drop a).take t).foldl dstep dgE)), none, some (.int (nI (a + t)))] [] sh h 0 0 := by
    intro n
    induction n with
    | zero =>
      intro t h1 h2 h3
      refine E_iload dX3_digestOf_7 rfl ?_
      refine E_if_lt 50 dX3_digestOf_9 (by decide) (fun c_9 => absurd c_9 (nI_pos (by omega))) (fun c_9 => ?_)
      refine E_iload dX3_digestOf_12 rfl ?_
      refine E_iload_n dX3_digestOf_14 rfl ?_
      refine E_iload_n dX3_digestOf_15 rfl ?_
      refine E_iadd dX3_digestOf_16 ?_
      rw [nI_add]
      refine E_icmp_ge 50 dX3_digestOf_17 (by decide) (fun c_17 => ?_) (fun c_17 => absurd (nI_le (by omega) (by omega)) c_17)
      refine E_lload_n dX3_digestOf_50 rfl ?_
      exact E_retl dX3_digestOf_51 rfl (Nat.le_of_ble_eq_true rfl) (Nat.le_of_ble_eq_true rfl) ⟨rfl, by rw [show t = k by omega]; rfl, rfl⟩
    | succ n ih =>
      intro t h1 h2 h3
      refine E_iload dX3_digestOf_7 rfl ?_
      refine E_if_lt 50 dX3_digestOf_9 (by decide) (fun c_9 => absurd c_9 (nI_pos (by omega))) (fun c_9 => ?_)
      refine E_iload dX3_digestOf_12 rfl ?_
      refine E_iload_n dX3_digestOf_14 rfl ?_
      refine E_iload_n dX3_digestOf_15 rfl ?_
      refine E_iadd dX3_digestOf_16 ?_
      rw [nI_add]
      refine E_icmp_ge 50 dX3_digestOf_17 (by decide) (fun c_17 => ?_) (fun c_17 => ?_)
      · refine E_lload_n dX3_digestOf_50 rfl ?_
        exact E_retl dX3_digestOf_51 rfl (Nat.le_of_ble_eq_true rfl) (Nat.le_of_ble_eq_true rfl) ⟨rfl, by rw [show t = k by have := (nI_leI (by omega) (by omega)).mp c_17; omega]; rfl, rfl⟩
      · refine E_iload dX3_digestOf_20 rfl ?_
        refine E_aload_n dX3_digestOf_22 rfl ?_
        refine E_getI dX3_digestOf_23 fl_X3_21 (by first | assumption | rfl) rfl ?_
        rw [hn]
        refine E_icmp_ge 50 dX3_digestOf_26 (by decide) (fun c_26 => ?_) (fun c_26 => ?_)
        · refine E_lload_n dX3_digestOf_50 rfl ?_
          exact E_retl dX3_digestOf_51 rfl (Nat.le_of_ble_eq_true rfl) (Nat.le_of_ble_eq_true rfl) ⟨rfl, by have h5 := (nI_leI (by omega) (by omega)).mp c_26; rw [dig, List.take_of_length_le (by simp; omega), List.take_of_length_le (by simp; omega)], rfl⟩
        · refine E_lload_n dX3_digestOf_29 rfl ?_
          refine E_aload_n dX3_digestOf_30 rfl ?_
          refine E_getR dX3_digestOf_31 fl_X3_15 (by first | assumption | rfl) (by assumption) rfl ?_
          refine E_iload dX3_digestOf_34 rfl ?_
          have h5 : a + t < xs.length := Nat.lt_of_not_le fun q => c_26 (nI_le q (by omega))
          have h6 : t < k := Nat.lt_of_not_le fun q => c_17 (nI_le (by omega) (by omega))
          refine E_iald dX3_digestOf_36 (by first | assumption | rfl) (vp_in_nI (by omega) (by omega)) ?_
          rw [nI_clamp (by omega), hx _ h5]
          refine E_i2l dX3_digestOf_37 ?_
          refine E_lxor dX3_digestOf_38 ?_
          refine E_ldc2 dX3_digestOf_39 kl_X3_31 ?_
          refine E_lmul dX3_digestOf_42 ?_
          refine E_lstore_n dX3_digestOf_43 (by decide) ?_
          refine E_iinc dX3_digestOf_44 rfl (by decide) ?_
          refine E_goto 7 dX3_digestOf_47 (by decide) ?_
          rw [nI_inc]
          have h7 : t < (xs.drop a).length := by simp; omega
          have h8 := ih (t + 1) (by omega) (by omega) (fun _ => by omega)
          rw [fold_take h7, show (xs.drop a).getD t 0 = xs.getD (a + t) 0 by simp [List.getD]] at h8
          exact h8
  refine E_ldc2 dX3_digestOf_0 kl_X3_29 ?_
  refine E_lstore_n dX3_digestOf_3 (by decide) ?_
  refine E_iload_n dX3_digestOf_4 rfl ?_
  refine E_istore dX3_digestOf_5 (by decide) ?_
  exact loop k 0 (by omega) (by omega) (by omega)
theorem c_Row_weakOf {sh : List Sh} {h : Hp} {r c m : Nat} {xs : List Nat} (R : RowL sh h r c m xs) (hB : ∀ x ∈ xs, x < 256) {a k : Nat} (hk : k ≤ 64) (hak : a + k ≤ xs.length) : Sp0 mX3_weakOf [.ref r, .int (nI a), .int (nI k)] sh h (fun v h' => v = some (.long (lN (wk k (fun j => xs.getD (a + j) 0)))) ∧ h' = h) := by
  obtain ⟨hr, hc, hs, hn, hm, hm5, hx⟩ := R
  have hf : ∀ j, (fun j => xs.getD (a + j) 0) j < 256 := by
    intro j
    show xs.getD (a + j) 0 < 256
    by_cases hj : a + j < xs.length
    · rw [List.getD_eq_getElem?_getD, List.getElem?_eq_getElem hj]
      exact hB _ (List.getElem_mem hj)
    · rw [List.getD_eq_getElem?_getD, List.getElem?_eq_none (by omega)]
      decide
  generalize hfe : (fun j => xs.getD (a + j) 0) = f at hf ⊢
  have hfx : ∀ j, xs.getD (a + j) 0 = f j := fun j => by rw [← hfe]
  refine Sp0.of (by decide) (Nat.le_of_ble_eq_true rfl) ?_
  show E mX3_weakOf none _ 0 [some (.ref r), some (.int (nI a)), some (.int (nI k)), none, none, none] [] sh h 0 0
  have loop : ∀ (n t : Nat), k - t ≤ n → t ≤ k → E mX3_weakOf none (fun v sh' h' => sh' = sh ∧ v = some (.long (lN (wk k f))) ∧ h' = h) 8 [some (.ref r), some (.int (nI a)), some (.int (nI k)), some (.int (nI (pS f t))), some (.int (nI (wS k f t))), some (.int (nI (a + t)))] [] sh h 0 0 := by
    intro n
    induction n with
    | zero =>
      intro t h1 h2
      have e : t = k := by omega
      subst e
      have b1 := pS_le hf t
      have b2 := wS_le hk hf t
      refine E_iload dX3_weakOf_8 rfl ?_
      refine E_if_lt 65 dX3_weakOf_10 (by decide) (fun c_10 => absurd c_10 (nI_pos (by omega))) (fun c_10 => ?_)
      refine E_iload dX3_weakOf_13 rfl ?_
      refine E_iload_n dX3_weakOf_15 rfl ?_
      refine E_iload_n dX3_weakOf_16 rfl ?_
      refine E_iadd dX3_weakOf_17 ?_
      rw [nI_add]
      refine E_icmp_ge 65 dX3_weakOf_18 (by decide) (fun c_18 => ?_) (fun c_18 => absurd (nI_le (by omega) (by omega)) c_18)
      refine E_iload dX3_weakOf_65 rfl ?_
      refine E_i2l dX3_weakOf_67 ?_
      refine E_ldc2 dX3_weakOf_68 kl_X3_33 ?_
      refine E_land dX3_weakOf_71 ?_
      refine E_bi 16 dX3_weakOf_72 (by decide) ?_
      refine E_lshl dX3_weakOf_74 ?_
      refine E_iload_n dX3_weakOf_75 rfl ?_
      refine E_i2l dX3_weakOf_76 ?_
      refine E_ldc2 dX3_weakOf_77 kl_X3_33 ?_
      refine E_land dX3_weakOf_80 ?_
      refine E_lor dX3_weakOf_81 ?_
      exact E_retl dX3_weakOf_82 rfl (Nat.le_of_ble_eq_true rfl) (Nat.le_of_ble_eq_true rfl) ⟨rfl, by rw [wk_long (by omega) (by omega), wk], rfl⟩
    | succ n ih =>
      intro t h1 h2
      have b1 := pS_le hf t
      have b2 := wS_le hk hf t
      refine E_iload dX3_weakOf_8 rfl ?_
      refine E_if_lt 65 dX3_weakOf_10 (by decide) (fun c_10 => absurd c_10 (nI_pos (by omega))) (fun c_10 => ?_)
      refine E_iload dX3_weakOf_13 rfl ?_
      refine E_iload_n dX3_weakOf_15 rfl ?_
      refine E_iload_n dX3_weakOf_16 rfl ?_
      refine E_iadd dX3_weakOf_17 ?_
      rw [nI_add]
      refine E_icmp_ge 65 dX3_weakOf_18 (by decide) (fun c_18 => ?_) (fun c_18 => ?_)
      · refine E_iload dX3_weakOf_65 rfl ?_
        refine E_i2l dX3_weakOf_67 ?_
        refine E_ldc2 dX3_weakOf_68 kl_X3_33 ?_
        refine E_land dX3_weakOf_71 ?_
        refine E_bi 16 dX3_weakOf_72 (by decide) ?_
        refine E_lshl dX3_weakOf_74 ?_
        refine E_iload_n dX3_weakOf_75 rfl ?_
        refine E_i2l dX3_weakOf_76 ?_
        refine E_ldc2 dX3_weakOf_77 kl_X3_33 ?_
        refine E_land dX3_weakOf_80 ?_
        refine E_lor dX3_weakOf_81 ?_
        have e : t = k := by have := (nI_leI (by omega) (by omega)).mp c_18; omega
        exact E_retl dX3_weakOf_82 rfl (Nat.le_of_ble_eq_true rfl) (Nat.le_of_ble_eq_true rfl) ⟨rfl, by subst e; rw [wk_long (by omega) (by omega), wk], rfl⟩
      · refine E_iload dX3_weakOf_21 rfl ?_
        refine E_aload_n dX3_weakOf_23 rfl ?_
        refine E_getI dX3_weakOf_24 fl_X3_21 (by first | assumption | rfl) rfl ?_
        rw [hn]
        have h6 : t < k := Nat.lt_of_not_le fun q => c_18 (nI_le (by omega) (by omega))
        refine E_icmp_ge 65 dX3_weakOf_27 (by decide) (fun c_27 => absurd c_27 (nI_ge (by omega) (by omega))) (fun c_27 => ?_)
        refine E_iload_n dX3_weakOf_30 rfl ?_
        refine E_aload_n dX3_weakOf_31 rfl ?_
        refine E_getR dX3_weakOf_32 fl_X3_15 (by first | assumption | rfl) (by assumption) rfl ?_
        refine E_iload dX3_weakOf_35 rfl ?_
        refine E_iald dX3_weakOf_37 (by first | assumption | rfl) (vp_in_nI (by omega) (by omega)) ?_
        rw [nI_clamp (by omega), hx _ (by omega), hfx]
        refine E_iadd dX3_weakOf_38 ?_
        refine E_istore_n dX3_weakOf_39 (by decide) ?_
        refine E_iload dX3_weakOf_40 rfl ?_
        refine E_iload_n dX3_weakOf_42 rfl ?_
        refine E_iload_n dX3_weakOf_43 rfl ?_
        refine E_iadd dX3_weakOf_44 ?_
        refine E_iload dX3_weakOf_45 rfl ?_
        refine E_isub dX3_weakOf_47 ?_
        refine E_aload_n dX3_weakOf_48 rfl ?_
        refine E_getR dX3_weakOf_49 fl_X3_15 (by first | assumption | rfl) (by assumption) rfl ?_
        refine E_iload dX3_weakOf_52 rfl ?_
        refine E_iald dX3_weakOf_54 (by first | assumption | rfl) (vp_in_nI (by omega) (by omega)) ?_
        rw [nI_clamp (by omega), hx _ (by omega), hfx]
        refine E_imul dX3_weakOf_55 ?_
        refine E_iadd dX3_weakOf_56 ?_
        refine E_istore dX3_weakOf_57 (by decide) ?_
        refine E_iinc dX3_weakOf_59 rfl (by decide) ?_
        refine E_goto 8 dX3_weakOf_62 (by decide) ?_
        rw [nI_inc, nI_add, nI_add, pk_sub (by omega), pk_mul, nI_add, show a + k - (a + t) = k - t by omega]
        exact ih (t + 1) (by omega) (by omega)
  refine E_ic 0 dX3_weakOf_0 (by decide) ?_
  refine E_istore_n dX3_weakOf_1 (by decide) ?_
  refine E_ic 0 dX3_weakOf_2 (by decide) ?_
  refine E_istore dX3_weakOf_3 (by decide) ?_
  refine E_iload_n dX3_weakOf_5 rfl ?_
  refine E_istore dX3_weakOf_6 (by decide) ?_
  exact loop k 0 (by omega) (by omega)
end
section
/-! RollingSync's small statics, and RollingSync$Side -/
def isF (f : Int32) : Prop := 0 ≤ f.toInt ∧ f.toInt < 8
theorem isF_nI {f : Nat} (h : f < 8) : isF (nI f) := by rw [isF, nI_toInt (by omega)]; omega
theorem isF_of {x : Int32} (h : isF x) : ∃ f, f < 8 ∧ x = nI f := by
  obtain ⟨j, h1, h2⟩ := nI_of2 (x := x) (M := 7) (n := 7) (by decide) (by rw [i_lt, i_0]; exact Int.not_lt.mpr h.1) (by rw [i_le]; have := h.2; rw [show (7 : Int32).toInt = 7 by decide]; omega)
  exact ⟨j, by omega, h2⟩
theorem c_isEnd {sh : List Sh} {h : Hp} (e : Int32) : Sp0 mX8_isEnd [.int e] sh h (fun v h' => v = some (.int (if e = 0 ∨ e = 1 then 1 else 0)) ∧ h' = h) := by
  refine Sp0.of (by decide) (Nat.le_of_ble_eq_true rfl) ?_
  show E mX8_isEnd none _ 0 [some (.int e)] [] sh h 0 0
  refine E_iload_n dX8_isEnd_0 rfl ?_
  refine E_if_eq 9 dX8_isEnd_1 (by decide) (fun c_1 => ?_) (fun c_1 => ?_)
  · refine E_ic 1 dX8_isEnd_9 (by decide) ?_
    refine E_goto 14 dX8_isEnd_10 (by decide) ?_
    exact E_reti dX8_isEnd_14 rfl rfl (Nat.le_of_ble_eq_true rfl) (Nat.le_of_ble_eq_true rfl) ⟨rfl, by rw [if_pos (Or.inl c_1)], rfl⟩
  · refine E_iload_n dX8_isEnd_4 rfl ?_
    refine E_ic 1 dX8_isEnd_5 (by decide) ?_
    refine E_icmp_ne 13 dX8_isEnd_6 (by decide) (fun c_6 => ?_) (fun c_6 => ?_)
    · refine E_ic 0 dX8_isEnd_13 (by decide) ?_
      exact E_reti dX8_isEnd_14 rfl rfl (Nat.le_of_ble_eq_true rfl) (Nat.le_of_ble_eq_true rfl) ⟨rfl, by rw [if_neg (fun q => q.elim c_1 c_6)], rfl⟩
    · refine E_ic 1 dX8_isEnd_9 (by decide) ?_
      refine E_goto 14 dX8_isEnd_10 (by decide) ?_
      exact E_reti dX8_isEnd_14 rfl rfl (Nat.le_of_ble_eq_true rfl) (Nat.le_of_ble_eq_true rfl) ⟨rfl, by rw [if_pos (Or.inr c_6)], rfl⟩
theorem c_isFile {sh : List Sh} {h : Hp} (f : Int32) : Sp0 mX8_isFile [.int f] sh h (fun v h' => v = some (.int (if 0 ≤ f.toInt ∧ f.toInt < 8 then 1 else 0)) ∧ h' = h) := by
  have h8 : (8 : Int32).toInt = 8 := by decide
  refine Sp0.of (by decide) (Nat.le_of_ble_eq_true rfl) ?_
  show E mX8_isFile none _ 0 [some (.int f)] [] sh h 0 0
  refine E_iload_n dX8_isFile_0 rfl ?_
  refine E_if_lt 14 dX8_isFile_1 (by decide) (fun c_1 => ?_) (fun c_1 => ?_)
  · refine E_ic 0 dX8_isFile_14 (by decide) ?_
    exact E_reti dX8_isFile_15 rfl rfl (Nat.le_of_ble_eq_true rfl) (Nat.le_of_ble_eq_true rfl) ⟨rfl, by rw [i_lt, i_0] at c_1; rw [if_neg (by omega)], rfl⟩
  · refine E_iload_n dX8_isFile_4 rfl ?_
    refine E_bi 8 dX8_isFile_5 (by decide) ?_
    refine E_icmp_ge 14 dX8_isFile_7 (by decide) (fun c_7 => ?_) (fun c_7 => ?_)
    · refine E_ic 0 dX8_isFile_14 (by decide) ?_
      exact E_reti dX8_isFile_15 rfl rfl (Nat.le_of_ble_eq_true rfl) (Nat.le_of_ble_eq_true rfl) ⟨rfl, by rw [i_le, h8] at c_7; rw [if_neg (by omega)], rfl⟩
    · refine E_ic 1 dX8_isFile_10 (by decide) ?_
      refine E_goto 15 dX8_isFile_11 (by decide) ?_
      exact E_reti dX8_isFile_15 rfl rfl (Nat.le_of_ble_eq_true rfl) (Nat.le_of_ble_eq_true rfl) ⟨rfl, by rw [i_le, h8] at c_7; rw [i_lt, i_0] at c_1; rw [if_pos (by omega)], rfl⟩
def byteAt (x : Int64) (i : Nat) : Nat := x.toBitVec.toNat / 2 ^ (56 - 8 * i) % 256
def bytes8 (x : Int64) : List Nat := (List.range 8).map (byteAt x)
theorem bytes8_take (x : Int64) {t : Nat} (h : t < 8) : (bytes8 x).take (t + 1) = (bytes8 x).take t ++ [byteAt x t] := by
  rw [take_s (by simp [bytes8]; omega)]
  simp [bytes8, List.getD, h]
theorem sh_b (x : Int64) {t : Nat} (h : t < 8) : ((x.toUInt64 >>> ((nI (56 - 8 * t)).toInt64.toUInt64 &&& Int64.toUInt64 63)).toInt64 &&& 255) = (nI (byteAt x t)).toInt64 := by
  obtain ⟨n, hn, rfl⟩ := wb_of x
  rw [wb_shr hn (by omega)]
  have e := wb_mask (n := n / 2 ^ (56 - 8 * t)) (k := 8) (Nat.lt_of_le_of_lt (Nat.div_le_self _ _) hn) (by decide)
  rw [show (lN (2 ^ 8 - 1) : Int64) = 255 by decide] at e
  rw [e, nI_l (by have := Nat.mod_lt ((lN n).toBitVec.toNat / 2 ^ (56 - 8 * t)) (show 256 > 0 by decide); unfold byteAt; omega), byteAt, wb_tn hn]
theorem mix_i : ∀ t, t < 8 → nI (56 - 8 * t) + Int32.ofInt (-8) = Int32.ofInt (56 - 8 * ((t + 1 : Nat) : Int)) := by decide
theorem mix_h : ∀ t, t < 8 → Int32.ofInt (56 - 8 * ((t : Nat) : Int)) = nI (56 - 8 * t) := by decide
theorem c_mixed {sh : List Sh} {h : Hp} (d x : Int64) : Sp0 mX6_mixed [.long d, .long x] sh h (fun v h' => v = some (.long ((bytes8 x).foldl dstep d)) ∧ h' = h) := by
  refine Sp0.of (by decide) (Nat.le_of_ble_eq_true rfl) ?_
  show E mX6_mixed none _ 0 [some (.long d), none, some (.long x), none, none, none, none] [] sh h 0 0
  have loop : ∀ (n t : Nat), 8 - t ≤ n → t ≤ 8 → E mX6_mixed none (fun v sh' h' => sh' = sh ∧ v = some (.long ((bytes8 x).foldl dstep d)) ∧ h' = h) 7 [some (.long d), none, some (.long x), none, some (.long (((bytes8 x).take t).foldl dstep d)), none, some (.int (Int32.ofInt (56 - 8 * (t : Int))))] [] sh h 0 0 := by
    intro n
    induction n with
    | zero =>
      intro t h1 h2
      have e : t = 8 := by omega
      subst e
      refine E_iload dX6_mixed_7 rfl ?_
      refine E_if_lt 35 dX6_mixed_9 (by decide) (fun c_9 => ?_) (fun c_9 => absurd (by decide) c_9)
      refine E_lload dX6_mixed_35 rfl ?_
      exact E_retl dX6_mixed_37 rfl (Nat.le_of_ble_eq_true rfl) (Nat.le_of_ble_eq_true rfl) ⟨rfl, rfl, rfl⟩
    | succ n ih =>
      intro t h1 h2
      by_cases e : t = 8
      · subst e
        refine E_iload dX6_mixed_7 rfl ?_
        refine E_if_lt 35 dX6_mixed_9 (by decide) (fun c_9 => ?_) (fun c_9 => absurd (by decide) c_9)
        refine E_lload dX6_mixed_35 rfl ?_
        exact E_retl dX6_mixed_37 rfl (Nat.le_of_ble_eq_true rfl) (Nat.le_of_ble_eq_true rfl) ⟨rfl, rfl, rfl⟩
      · rw [mix_h t (by omega)]
        refine E_iload dX6_mixed_7 rfl ?_
        refine E_if_lt 35 dX6_mixed_9 (by decide) (fun c_9 => absurd c_9 (nI_pos (by omega))) (fun c_9 => ?_)
        refine E_lload dX6_mixed_12 rfl ?_
        refine E_lload_n dX6_mixed_14 rfl ?_
        refine E_iload dX6_mixed_15 rfl ?_
        refine E_lushr dX6_mixed_17 ?_
        refine E_ldc2 dX6_mixed_18 kl_X6_64 ?_
        refine E_land dX6_mixed_21 ?_
        rw [sh_b x (by omega)]
        refine E_lxor dX6_mixed_22 ?_
        refine E_ldc2 dX6_mixed_23 kl_X6_66 ?_
        refine E_lmul dX6_mixed_26 ?_
        refine E_lstore dX6_mixed_27 (by decide) ?_
        refine E_iinc dX6_mixed_29 rfl (by decide) ?_
        refine E_goto 7 dX6_mixed_32 (by decide) ?_
        rw [mix_i t (by omega)]
        have h8 := ih (t + 1) (by omega) (by omega)
        rw [bytes8_take x (by omega), List.foldl_append] at h8
        exact h8
  refine E_lload_n dX6_mixed_0 rfl ?_
  refine E_lstore dX6_mixed_1 (by decide) ?_
  refine E_bi 56 dX6_mixed_3 (by decide) ?_
  refine E_istore dX6_mixed_5 (by decide) ?_
  exact loop 8 0 (by omega) (by omega)
/-! the tree of digests -/
abbrev FS : Type := Nat → Option (List Nat)
def leafD (F : FS) (f : Nat) : Int64 := match F f with
  | none => 0
  | some xs => dig xs
def mx (a b : Int64) : Int64 := (bytes8 b).foldl dstep ((bytes8 a).foldl dstep dgE)
def nd8 (F : FS) (n : Nat) : Int64 := leafD F (n - 8)
def nd4 (F : FS) (n : Nat) : Int64 := mx (nd8 F (2 * n)) (nd8 F (2 * n + 1))
def nd2 (F : FS) (n : Nat) : Int64 := mx (nd4 F (2 * n)) (nd4 F (2 * n + 1))
def nodeF (F : FS) (n : Nat) : Int64 := if 8 ≤ n then nd8 F n else if 4 ≤ n then nd4 F n else if 2 ≤ n then nd2 F n else mx (nd2 F 2) (nd2 F 3)
theorem nodeF_rec (F : FS) {n : Nat} (h1 : 1 ≤ n) (h2 : n < 8) : nodeF F n = mx (nodeF F (2 * n)) (nodeF F (2 * n + 1)) := by
  by_cases h4 : 4 ≤ n
  · simp only [nodeF, if_neg (show ¬ 8 ≤ n by omega), if_pos h4, if_pos (show 8 ≤ 2 * n by omega), if_pos (show 8 ≤ 2 * n + 1 by omega)]
    rfl
  · by_cases h3 : 2 ≤ n
    · simp only [nodeF, if_neg (show ¬ 8 ≤ n by omega), if_neg h4, if_pos h3, if_neg (show ¬ 8 ≤ 2 * n by omega), if_neg (show ¬ 8 ≤ 2 * n + 1 by omega), if_pos (show 4 ≤ 2 * n by omega), if_pos (show 4 ≤ 2 * n + 1 by omega)]
      rfl
    · have : n = 1 := by omega
      subst this
      rfl
def anc (n m : Nat) : Prop := m = n ∨ m = n / 2 ∨ m = n / 4 ∨ m = n / 8
theorem leafD_off {F G : FS} {f : Nat} (h : ∀ g, g ≠ f → G g = F g) {g : Nat} (hg : g ≠ f) : leafD G g = leafD F g := by simp [leafD, h g hg]
theorem nodeF_off {F G : FS} {f m : Nat} (hf : f < 8) (h : ∀ g, g ≠ f → G g = F g) (h1 : 1 ≤ m) (h2 : m < 16) (hn : ¬ anc (8 + f) m) : nodeF G m = nodeF F m := by
  have k8 : ∀ n, 8 ≤ n → n ≠ 8 + f → nd8 G n = nd8 F n := fun n q1 q2 => leafD_off h (by omega)
  have k4 : ∀ n, 4 ≤ n → n ≠ (8 + f) / 2 → nd4 G n = nd4 F n := fun n q1 q2 => by
    simp only [nd4]
    rw [k8 _ (by omega) (by omega), k8 _ (by omega) (by omega)]
  have k2 : ∀ n, 2 ≤ n → n ≠ (8 + f) / 4 → nd2 G n = nd2 F n := fun n q1 q2 => by
    simp only [nd2]
    rw [k4 _ (by omega) (by omega), k4 _ (by omega) (by omega)]
  unfold anc at hn
  unfold nodeF
  split
  · exact k8 _ (by omega) (by omega)
  · split
    · exact k4 _ (by omega) (by omega)
    · split
      · exact k2 _ (by omega) (by omega)
      · exfalso
        omega
def rId (s f : Nat) : Nat := s + 4 + 2 * f
def cId (s f : Nat) : Nat := s + 5 + 2 * f
/-- the shape of a side: what never changes -/
def SideW (sh : List Sh) (h : Hp) (s : Nat) : Prop := sh[s]? = some (.inr 6) ∧ h.2.2 s 0 = some (s + 1) ∧ h.2.2 s 1 = some (s + 2) ∧ h.2.2 s 2 = some (s + 3) ∧ sh[s + 1]? = some (.inl (.object RX3, 8)) ∧ sh[s + 2]? = some (.inl (.boolean, 8)) ∧ sh[s + 3]? = some (.inl (.long, 16)) ∧ ∀ f, f < 8 → h.2.2 (s + 1) f = some (rId s f)
def SideR (sh : List Sh) (h : Hp) (s : Nat) (F : FS) : Prop := SideW sh h s ∧ (∀ f, f < 8 → RowL sh h (rId s f) (cId s f) 500 ((F f).getD [])) ∧ (∀ f, f < 8 → h.1 (s + 2) f = if (F f).isSome then 1 else 0) ∧ (∀ f xs, F f = some xs → ∀ x ∈ xs, x < 256)
def SideN (h : Hp) (s : Nat) (F : FS) : Prop := ∀ n, 1 ≤ n → n < 16 → h.2.1 (s + 3) n = nodeF F n
/-- what a side's methods leave alone -/
def SideF (h h' : Hp) (s : Nat) : Prop := h'.2.2 = h.2.2 ∧ ∀ a, a < s ∨ s + 20 ≤ a → h'.1 a = h.1 a ∧ h'.2.1 a = h.2.1 a
theorem SideF.rf {h : Hp} {s : Nat} : SideF h h s := ⟨rfl, fun _ _ => ⟨rfl, rfl⟩⟩
theorem SideF.tr {h h1 h2 : Hp} {s : Nat} (a : SideF h h1 s) (b : SideF h1 h2 s) : SideF h h2 s := ⟨b.1.trans a.1, fun x q => ⟨(b.2 x q).1.trans (a.2 x q).1, (b.2 x q).2.trans (a.2 x q).2⟩⟩
theorem RowF.side {h h' : Hp} {s f : Nat} (hf : f < 8) (a : RowF h h' (rId s f) (cId s f)) : SideF h h' s := by
  refine ⟨by rw [a.1], fun x q => ⟨a.2 x (by unfold rId; omega) (by unfold cId; omega), by rw [a.1]⟩⟩
def exF (F : FS) (f : Int32) : Option Nat := if 0 ≤ f.toInt ∧ f.toInt < 8 then (if (F f.toNatClampNeg).isSome then some f.toNatClampNeg else none) else none
theorem exF_some {F : FS} {x : Int32} {f : Nat} (h : exF F x = some f) : f < 8 ∧ x = nI f ∧ ∃ xs, F f = some xs := by
  unfold exF at h
  split at h
  · next q =>
    split at h
    · next q2 =>
      obtain ⟨g, hg, rfl⟩ := isF_of q
      rw [nI_clamp (by omega)] at h q2
      cases h
      exact ⟨hg, rfl, Option.isSome_iff_exists.mp q2⟩
    · cases h
  · cases h
theorem exF_of {F : FS} {f : Nat} {xs : List Nat} (hf : f < 8) (h : F f = some xs) : exF F (nI f) = some f := by
  unfold exF
  rw [if_pos (show 0 ≤ (nI f).toInt ∧ (nI f).toInt < 8 from isF_nI hf), nI_clamp (by omega), h]
  rfl
theorem exF_none {F : FS} {f : Nat} (hf : f < 8) (h : F f = none) : exF F (nI f) = none := by
  unfold exF
  rw [if_pos (show 0 ≤ (nI f).toInt ∧ (nI f).toInt < 8 from isF_nI hf), nI_clamp (by omega), h]
  rfl
theorem c_existing {sh : List Sh} {h : Hp} {s : Nat} {F : FS} (S : SideR sh h s F) (f : Int32) : Sp0 mX6_existing [.ref s, .int f] sh h (fun v h' => v = some (va_rf ((exF F f).map (rId s))) ∧ h' = h) := by
  obtain ⟨⟨w1, w2, w3, w4, w5, w6, w7, w8⟩, hR, hP, hB⟩ := S
  refine Sp0.of (by decide) (Nat.le_of_ble_eq_true rfl) ?_
  show E mX6_existing none _ 0 [some (.ref s), some (.int f)] [] sh h 0 0
  by_cases hf : 0 ≤ f.toInt ∧ f.toInt < 8
  · obtain ⟨g, hg, rfl⟩ := isF_of hf
    have hcl : (nI g).toNatClampNeg = g := nI_clamp (by omega)
    cases hx : F g with
    | none =>
      refine E_iload_n dX6_existing_0 rfl ?_
      refine cS1 (N := mX8_isFile) dX6_existing_1 cn_X8_isFile lk_X6_31 ⟨Nat.le_of_ble_eq_true rfl, Nat.le_of_ble_eq_true rfl⟩ (Nat.le_of_ble_eq_true rfl) ⟨rfl, rfl⟩ (c_isFile _) (fun v2 h2 ⟨hv2, hh2⟩ => ?_)
      subst hv2 hh2
      rw [if_pos hf]
      refine E_if_eq 25 dX6_existing_4 (by decide) (fun c_4 => absurd c_4 (by decide)) (fun c_4 => ?_)
      refine E_aload_n dX6_existing_7 rfl ?_
      refine E_getR dX6_existing_8 fl_X6_17 (by first | assumption | rfl) (by assumption) rfl ?_
      refine E_iload_n dX6_existing_11 rfl ?_
      refine E_zald dX6_existing_12 (by first | assumption | rfl) (vp_in_nI hg (by omega)) ?_
      rw [hcl, hP g hg, hx]
      refine E_if_eq 25 dX6_existing_13 (by decide) (fun c_13 => ?_) (fun c_13 => absurd rfl c_13)
      refine E_null dX6_existing_25 ?_
      exact E_retn dX6_existing_26 rfl (Nat.le_of_ble_eq_true rfl) (Nat.le_of_ble_eq_true rfl) ⟨rfl, by rw [exF_none hg hx]; rfl, rfl⟩
    | some xs =>
      refine E_iload_n dX6_existing_0 rfl ?_
      refine cS1 (N := mX8_isFile) dX6_existing_1 cn_X8_isFile lk_X6_31 ⟨Nat.le_of_ble_eq_true rfl, Nat.le_of_ble_eq_true rfl⟩ (Nat.le_of_ble_eq_true rfl) ⟨rfl, rfl⟩ (c_isFile _) (fun v2 h2 ⟨hv2, hh2⟩ => ?_)
      subst hv2 hh2
      rw [if_pos hf]
      refine E_if_eq 25 dX6_existing_4 (by decide) (fun c_4 => absurd c_4 (by decide)) (fun c_4 => ?_)
      refine E_aload_n dX6_existing_7 rfl ?_
      refine E_getR dX6_existing_8 fl_X6_17 (by first | assumption | rfl) (by assumption) rfl ?_
      refine E_iload_n dX6_existing_11 rfl ?_
      refine E_zald dX6_existing_12 (by first | assumption | rfl) (vp_in_nI hg (by omega)) ?_
      rw [hcl, hP g hg, hx]
      refine E_if_eq 25 dX6_existing_13 (by decide) (fun c_13 => absurd c_13 (by simp)) (fun c_13 => ?_)
      refine E_aload_n dX6_existing_16 rfl ?_
      refine E_getR dX6_existing_17 fl_X6_11 (by first | assumption | rfl) (by assumption) rfl ?_
      refine E_iload_n dX6_existing_20 rfl ?_
      refine E_aald dX6_existing_21 (by first | assumption | rfl) (vp_in_nI hg (by omega)) (by rw [hcl]; exact w8 g hg) ?_
      refine E_goto 26 dX6_existing_22 (by decide) ?_
      exact E_retr dX6_existing_26 rfl (Nat.le_of_ble_eq_true rfl) (Nat.le_of_ble_eq_true rfl) ⟨rfl, by rw [exF_of hg hx]; rfl, rfl⟩
  · refine E_iload_n dX6_existing_0 rfl ?_
    refine cS1 (N := mX8_isFile) dX6_existing_1 cn_X8_isFile lk_X6_31 ⟨Nat.le_of_ble_eq_true rfl, Nat.le_of_ble_eq_true rfl⟩ (Nat.le_of_ble_eq_true rfl) ⟨rfl, rfl⟩ (c_isFile _) (fun v2 h2 ⟨hv2, hh2⟩ => ?_)
    subst hv2 hh2
    rw [if_neg hf]
    refine E_if_eq 25 dX6_existing_4 (by decide) (fun c_4 => ?_) (fun c_4 => absurd rfl c_4)
    refine E_null dX6_existing_25 ?_
    exact E_retn dX6_existing_26 rfl (Nat.le_of_ble_eq_true rfl) (Nat.le_of_ble_eq_true rfl) ⟨rfl, by rw [exF, if_neg hf]; rfl, rfl⟩
theorem c_countOf {sh : List Sh} {h : Hp} {s : Nat} {F : FS} (S : SideR sh h s F) {f : Nat} (hf : f < 8) : Sp0 mX6_countOf [.ref s, .int (nI f)] sh h (fun v h' => v = some (.int (nI ((F f).getD []).length)) ∧ h' = h) := by
  have w1 := S.1.1
  refine Sp0.of (by decide) (Nat.le_of_ble_eq_true rfl) ?_
  show E mX6_countOf none _ 0 [some (.ref s), some (.int (nI f)), none] [] sh h 0 0
  cases hx : F f with
  | none =>
    refine E_aload_n dX6_countOf_0 rfl ?_
    refine E_iload_n dX6_countOf_1 rfl ?_
    refine cV1 (N := mX6_existing) dX6_countOf_2 cn_X6_existing lk_X6_35 ⟨Nat.le_of_ble_eq_true rfl, Nat.le_of_ble_eq_true rfl⟩ (by first | assumption | rfl) rfl (Nat.le_of_ble_eq_true rfl) ⟨rfl, rfl⟩ (c_existing S _) (fun v2 h2 ⟨hv2, hh2⟩ => ?_)
    subst hv2 hh2
    rw [exF_none hf hx]
    refine E_astore_nN dX6_countOf_5 (by decide) ?_
    refine E_aload_nN dX6_countOf_6 rfl ?_
    refine E_ifnonnullN dX6_countOf_7 ?_
    refine E_ic 0 dX6_countOf_10 (by decide) ?_
    refine E_goto 18 dX6_countOf_11 (by decide) ?_
    exact E_reti dX6_countOf_18 rfl rfl (Nat.le_of_ble_eq_true rfl) (Nat.le_of_ble_eq_true rfl) ⟨rfl, rfl, rfl⟩
  | some xs =>
    have R := S.2.1 f hf
    rw [hx] at R
    refine E_aload_n dX6_countOf_0 rfl ?_
    refine E_iload_n dX6_countOf_1 rfl ?_
    refine cV1 (N := mX6_existing) dX6_countOf_2 cn_X6_existing lk_X6_35 ⟨Nat.le_of_ble_eq_true rfl, Nat.le_of_ble_eq_true rfl⟩ (by first | assumption | rfl) rfl (Nat.le_of_ble_eq_true rfl) ⟨rfl, rfl⟩ (c_existing S _) (fun v2 h2 ⟨hv2, hh2⟩ => ?_)
    subst hv2 hh2
    rw [exF_of hf hx]
    refine E_astore_n dX6_countOf_5 (by decide) ?_
    refine E_aload_n dX6_countOf_6 rfl ?_
    refine E_ifnonnull 14 dX6_countOf_7 (by decide) ?_
    refine E_aload_n dX6_countOf_14 rfl ?_
    refine cV0 (N := mX3_count) dX6_countOf_15 cn_X3_count lk_X6_39 ⟨Nat.le_of_ble_eq_true rfl, Nat.le_of_ble_eq_true rfl⟩ R.1 rfl (Nat.le_of_ble_eq_true rfl) ⟨rfl, rfl⟩ (c_Row_count R.1) (fun v2 h2 ⟨hv2, hh2⟩ => ?_)
    subst hv2 hh2
    exact E_reti dX6_countOf_18 rfl rfl (Nat.le_of_ble_eq_true rfl) (Nat.le_of_ble_eq_true rfl) ⟨rfl, by rw [R.2.2.2.1], rfl⟩
theorem c_digestAt {sh : List Sh} {h : Hp} {s : Nat} {F : FS} (S : SideW sh h s) (N : SideN h s F) (n : Int32) : Sp0 mX6_digestAt [.ref s, .int n] sh h (fun v h' => v = some (.long (if 1 ≤ n.toInt ∧ n.toInt < 16 then nodeF F n.toNatClampNeg else 0)) ∧ h' = h) := by
  obtain ⟨w1, w2, w3, w4, w5, w6, w7, w8⟩ := S
  have h1 : (1 : Int32).toInt = 1 := by decide
  have h16 : (16 : Int32).toInt = 16 := by decide
  refine Sp0.of (by decide) (Nat.le_of_ble_eq_true rfl) ?_
  show E mX6_digestAt none _ 0 [some (.ref s), some (.int n)] [] sh h 0 0
  refine E_iload_n dX6_digestAt_0 rfl ?_
  refine E_ic 1 dX6_digestAt_1 (by decide) ?_
  refine E_icmp_lt 20 dX6_digestAt_2 (by decide) (fun c_2 => ?_) (fun c_2 => ?_)
  · refine E_lc 0 dX6_digestAt_20 (by decide) ?_
    exact E_retl dX6_digestAt_21 rfl (Nat.le_of_ble_eq_true rfl) (Nat.le_of_ble_eq_true rfl) ⟨rfl, by rw [i_lt, h1] at c_2; rw [if_neg (by omega)], rfl⟩
  · refine E_iload_n dX6_digestAt_5 rfl ?_
    refine E_bi 16 dX6_digestAt_6 (by decide) ?_
    refine E_icmp_ge 20 dX6_digestAt_8 (by decide) (fun c_8 => ?_) (fun c_8 => ?_)
    · refine E_lc 0 dX6_digestAt_20 (by decide) ?_
      exact E_retl dX6_digestAt_21 rfl (Nat.le_of_ble_eq_true rfl) (Nat.le_of_ble_eq_true rfl) ⟨rfl, by rw [i_le, h16] at c_8; rw [if_neg (by omega)], rfl⟩
    · refine E_aload_n dX6_digestAt_11 rfl ?_
      refine E_getR dX6_digestAt_12 fl_X6_21 (by first | assumption | rfl) (by assumption) rfl ?_
      refine E_iload_n dX6_digestAt_15 rfl ?_
      rw [i_lt, h1] at c_2
      rw [i_le, h16] at c_8
      have c0 : ¬ n < 0 := by rw [i_lt, i_0]; omega
      have c3 := cl_toInt c0
      refine E_lald dX6_digestAt_16 (by first | assumption | rfl) (in_of c0 (by omega)) ?_
      refine E_goto 21 dX6_digestAt_17 (by decide) ?_
      exact E_retl dX6_digestAt_21 rfl (Nat.le_of_ble_eq_true rfl) (Nat.le_of_ble_eq_true rfl) ⟨rfl, by rw [if_pos (by omega), N _ (by omega) (by omega)], rfl⟩
theorem SideR.off {sh : List Sh} {h h' : Hp} {s : Nat} {F : FS} (S : SideR sh h s F) (h1 : ∀ a, s ≤ a → a < s + 20 → h'.1 a = h.1 a) (h2 : ∀ a, s ≤ a → a < s + 20 → h'.2.2 a = h.2.2 a) : SideR sh h' s F := by
  obtain ⟨⟨w1, w2, w3, w4, w5, w6, w7, w8⟩, hR, hP, hB⟩ := S
  refine ⟨⟨w1, by rw [h2 _ (by omega) (by omega)]; exact w2, by rw [h2 _ (by omega) (by omega)]; exact w3, by rw [h2 _ (by omega) (by omega)]; exact w4, w5, w6, w7, fun f hf => by rw [h2 _ (by omega) (by omega)]; exact w8 f hf⟩, fun f hf => (hR f hf).keep (h1 _ (by unfold rId; omega) (by unfold rId; omega)) (h1 _ (by unfold cId; omega) (by unfold cId; omega)) (h2 _ (by unfold rId; omega) (by unfold rId; omega)), fun f hf => by rw [h1 _ (by omega) (by omega)]; exact hP f hf, hB⟩
/-- the nodes are made anew along one path -/
theorem c_refresh {sh : List Sh} {h : Hp} {s : Nat} {F G : FS} {f : Nat} (hf : f < 8) (S : SideR sh h s G) (N : SideN h s F) (hFG : ∀ g, g ≠ f → G g = F g) : Sp0 mX6_refresh [.ref s, .int (nI f)] sh h (fun v h' => v = none ∧ SideN h' s G ∧ h'.1 = h.1 ∧ h'.2.2 = h.2.2 ∧ ∀ a, a ≠ s + 3 → h'.2.1 a = h.2.1 a) := by
  obtain ⟨⟨w1, w2, w3, w4, w5, w6, w7, w8⟩, hR, hP, hB⟩ := S
  have hcl : (nI f).toNatClampNeg = f := nI_clamp (by omega)
  refine Sp0.of (by decide) (Nat.le_of_ble_eq_true rfl) ?_
  show E mX6_refresh none _ 0 [some (.ref s), some (.int (nI f)), none] [] sh h 0 0
  have loop : ∀ (k n : Nat) (h' : Hp), n ≤ k → n < 8 → h'.1 = h.1 → h'.2.2 = h.2.2 → (∀ a, a ≠ s + 3 → h'.2.1 a = h.2.1 a) → (∀ m, 1 ≤ m → m < 16 → anc n m ∨ h'.2.1 (s + 3) m = nodeF G m) → E mX6_refresh none (fun v sh' h' => sh' = sh ∧ v = none ∧ SideN h' s G ∧ h'.1 = h.1 ∧ h'.2.2 = h.2.2 ∧ ∀ a, a ≠ s + 3 → h'.2.1 a = h.2.1 a) 50 [some (.ref s), some (.int (nI f)), some (.int (nI n))] [] sh h' 0 0 := by
    intro k
    induction k with
    | zero =>
      intro n h' h1 h2 e1 e2 e3 h3
      have e : n = 0 := by omega
      subst e
      refine E_iload_n dX6_refresh_50 rfl ?_
      refine E_ic 1 dX6_refresh_51 (by decide) ?_
      refine E_icmp_lt 95 dX6_refresh_52 (by decide) (fun c_52 => ?_) (fun c_52 => absurd (by decide) c_52)
      exact E_retv dX6_refresh_95 rfl (Nat.le_of_ble_eq_true rfl) (Nat.le_of_ble_eq_true rfl) ⟨rfl, rfl, fun m q1 q2 => (h3 m q1 q2).elim (fun q => by unfold anc at q; omega) (fun q => q), e1, e2, e3⟩
    | succ k ih =>
      intro n h' h1 h2 e1 e2 e3 h3
      have w4' : h'.2.2 s 2 = some (s + 3) := by rw [e2]; exact w4
      by_cases hn : n = 0
      · subst hn
        refine E_iload_n dX6_refresh_50 rfl ?_
        refine E_ic 1 dX6_refresh_51 (by decide) ?_
        refine E_icmp_lt 95 dX6_refresh_52 (by decide) (fun c_52 => ?_) (fun c_52 => absurd (by decide) c_52)
        exact E_retv dX6_refresh_95 rfl (Nat.le_of_ble_eq_true rfl) (Nat.le_of_ble_eq_true rfl) ⟨rfl, rfl, fun m q1 q2 => (h3 m q1 q2).elim (fun q => by unfold anc at q; omega) (fun q => q), e1, e2, e3⟩
      · have hcn : (nI n).toNatClampNeg = n := nI_clamp (by omega)
        have hv0 : h'.2.1 (s + 3) (2 * n) = nodeF G (2 * n) := (h3 (2 * n) (by omega) (by omega)).elim (fun q => by unfold anc at q; omega) (fun q => q)
        have hv1 : h'.2.1 (s + 3) (2 * n + 1) = nodeF G (2 * n + 1) := (h3 (2 * n + 1) (by omega) (by omega)).elim (fun q => by unfold anc at q; omega) (fun q => q)
        refine E_iload_n dX6_refresh_50 rfl ?_
        refine E_ic 1 dX6_refresh_51 (by decide) ?_
        refine E_icmp_lt 95 dX6_refresh_52 (by decide) (fun c_52 => absurd c_52 (by rw [show (1 : Int32) = nI 1 by decide]; exact nI_nlt (by omega) (by omega))) (fun c_52 => ?_)
        refine E_aload_n dX6_refresh_55 rfl ?_
        refine E_getR dX6_refresh_56 fl_X6_21 (by first | assumption | rfl) (by assumption) rfl ?_
        refine E_iload_n dX6_refresh_59 rfl ?_
        refine E_ldc2 dX6_refresh_60 kl_X6_58 ?_
        refine E_aload_n dX6_refresh_63 rfl ?_
        refine E_getR dX6_refresh_64 fl_X6_21 (by first | assumption | rfl) (by assumption) rfl ?_
        refine E_ic 2 dX6_refresh_67 (by decide) ?_
        refine E_iload_n dX6_refresh_68 rfl ?_
        refine E_imul dX6_refresh_69 ?_
        rw [show (2 : Int32) = nI 2 by decide, pk_mul]
        refine E_lald dX6_refresh_70 (by first | assumption | rfl) (vp_in_nI (by omega) (by omega)) ?_
        rw [nI_clamp (by omega), hv0]
        refine cS2 (N := mX6_mixed) dX6_refresh_71 cn_X6_mixed lk_X6_60 ⟨Nat.le_of_ble_eq_true rfl, Nat.le_of_ble_eq_true rfl⟩ (Nat.le_of_ble_eq_true rfl) ⟨rfl, rfl⟩ (c_mixed _ _) (fun v2 h2 ⟨hv2, hh2⟩ => ?_)
        subst hv2 hh2
        refine E_aload_n dX6_refresh_74 rfl ?_
        refine E_getR dX6_refresh_75 fl_X6_21 (by first | assumption | rfl) (by assumption) rfl ?_
        refine E_ic 2 dX6_refresh_78 (by decide) ?_
        refine E_iload_n dX6_refresh_79 rfl ?_
        refine E_imul dX6_refresh_80 ?_
        refine E_ic 1 dX6_refresh_81 (by decide) ?_
        refine E_iadd dX6_refresh_82 ?_
        rw [show (2 : Int32) = nI 2 by decide, pk_mul, nI_1]
        refine E_lald dX6_refresh_83 (by first | assumption | rfl) (vp_in_nI (by omega) (by omega)) ?_
        rw [nI_clamp (by omega), hv1]
        refine cS2 (N := mX6_mixed) dX6_refresh_84 cn_X6_mixed lk_X6_60 ⟨Nat.le_of_ble_eq_true rfl, Nat.le_of_ble_eq_true rfl⟩ (Nat.le_of_ble_eq_true rfl) ⟨rfl, rfl⟩ (c_mixed _ _) (fun v2 h2 ⟨hv2, hh2⟩ => ?_)
        subst hv2 hh2
        refine E_last dX6_refresh_87 (by first | assumption | rfl) (vp_in_nI (by omega) (by omega)) ?_
        refine E_iload_n dX6_refresh_88 rfl ?_
        refine E_ic 2 dX6_refresh_89 (by decide) ?_
        rw [hcn]
        refine E_idiv (by decide) dX6_refresh_90 ?_
        refine E_istore_n dX6_refresh_91 (by decide) ?_
        rw [show (2 : Int32) = nI 2 by decide, pk_div (by omega) (by omega) (by omega)]
        refine E_goto 50 dX6_refresh_92 (by decide) ?_
        refine ih (n / 2) _ (by omega) (by omega) e1 e2 (fun a ha => ?_) (fun m q1 q2 => ?_)
        · rw [← e3 a ha]; funext j; simp [sL, u2, ha]
        · by_cases hm : m = n
          · right
            subst hm
            rw [nodeF_rec G (by omega) h2]
            simp [sL, u2]
            rfl
          · rcases h3 m q1 q2 with q | q
            · left
              unfold anc at q ⊢
              omega
            · right
              rw [← q]
              simp [sL, u2, hm]
  have start : ∀ x : Int64, x = leafD G f → E mX6_refresh none (fun v sh' h' => sh' = sh ∧ v = none ∧ SideN h' s G ∧ h'.1 = h.1 ∧ h'.2.2 = h.2.2 ∧ ∀ a, a ≠ s + 3 → h'.2.1 a = h.2.1 a) 42 [some (.ref s), some (.int (nI f)), none] [.long x, .int (nI (8 + f)), .ref (s + 3)] sh h 0 0 := by
    intro x hx
    refine E_last dX6_refresh_42 (by first | assumption | rfl) (vp_in_nI (by omega) (by omega)) ?_
    rw [nI_clamp (by omega)]
    refine E_bi 8 dX6_refresh_43 (by decide) ?_
    refine E_iload_n dX6_refresh_45 rfl ?_
    refine E_iadd dX6_refresh_46 ?_
    refine E_ic 2 dX6_refresh_47 (by decide) ?_
    rw [show (8 : Int32) = nI 8 by decide, nI_add, show (2 : Int32) = nI 2 by decide]
    refine E_idiv (by decide) dX6_refresh_48 ?_
    rw [pk_div (by omega) (by omega) (by omega)]
    refine E_istore_n dX6_refresh_49 (by decide) ?_
    refine loop 8 ((8 + f) / 2) _ (by omega) (by omega) rfl rfl (fun a ha => ?_) (fun m q1 q2 => ?_)
    · funext j; simp [sL, u2, ha]
    · by_cases hm : m = 8 + f
      · right
        subst hm
        simp [sL, u2, hx, nodeF, nd8]
      · by_cases ha : anc (8 + f) m
        · left
          unfold anc at ha ⊢
          omega
        · right
          rw [nodeF_off hf hFG q1 q2 ha, ← N m q1 q2]
          simp [sL, u2, hm]
  cases hx : G f with
  | none =>
    refine E_iload_n dX6_refresh_0 rfl ?_
    refine cS1 (N := mX8_isFile) dX6_refresh_1 cn_X8_isFile lk_X6_31 ⟨Nat.le_of_ble_eq_true rfl, Nat.le_of_ble_eq_true rfl⟩ (Nat.le_of_ble_eq_true rfl) ⟨rfl, rfl⟩ (c_isFile _) (fun v2 h2 ⟨hv2, hh2⟩ => ?_)
    subst hv2 hh2
    rw [if_pos (show 0 ≤ (nI f).toInt ∧ (nI f).toInt < 8 from isF_nI hf)]
    refine E_if_ne 8 dX6_refresh_4 (by decide) (fun c_4 => ?_) (fun c_4 => absurd c_4 (by decide))
    refine E_aload_n dX6_refresh_8 rfl ?_
    refine E_getR dX6_refresh_9 fl_X6_21 (by first | assumption | rfl) (by assumption) rfl ?_
    refine E_bi 8 dX6_refresh_12 (by decide) ?_
    refine E_iload_n dX6_refresh_14 rfl ?_
    refine E_iadd dX6_refresh_15 ?_
    rw [show (8 : Int32) = nI 8 by decide, nI_add]
    refine E_aload_n dX6_refresh_16 rfl ?_
    refine E_getR dX6_refresh_17 fl_X6_17 (by first | assumption | rfl) (by assumption) rfl ?_
    refine E_iload_n dX6_refresh_20 rfl ?_
    refine E_zald dX6_refresh_21 (by first | assumption | rfl) (vp_in_nI hf (by omega)) ?_
    rw [hcl, hP f hf, hx]
    refine E_if_eq 41 dX6_refresh_22 (by decide) (fun c_22 => ?_) (fun c_22 => absurd rfl c_22)
    refine E_lc 0 dX6_refresh_41 (by decide) ?_
    exact start _ (by rw [leafD, hx])
  | some xs =>
    have R := hR f hf
    rw [hx] at R
    refine E_iload_n dX6_refresh_0 rfl ?_
    refine cS1 (N := mX8_isFile) dX6_refresh_1 cn_X8_isFile lk_X6_31 ⟨Nat.le_of_ble_eq_true rfl, Nat.le_of_ble_eq_true rfl⟩ (Nat.le_of_ble_eq_true rfl) ⟨rfl, rfl⟩ (c_isFile _) (fun v2 h2 ⟨hv2, hh2⟩ => ?_)
    subst hv2 hh2
    rw [if_pos (show 0 ≤ (nI f).toInt ∧ (nI f).toInt < 8 from isF_nI hf)]
    refine E_if_ne 8 dX6_refresh_4 (by decide) (fun c_4 => ?_) (fun c_4 => absurd c_4 (by decide))
    refine E_aload_n dX6_refresh_8 rfl ?_
    refine E_getR dX6_refresh_9 fl_X6_21 (by first | assumption | rfl) (by assumption) rfl ?_
    refine E_bi 8 dX6_refresh_12 (by decide) ?_
    refine E_iload_n dX6_refresh_14 rfl ?_
    refine E_iadd dX6_refresh_15 ?_
    rw [show (8 : Int32) = nI 8 by decide, nI_add]
    refine E_aload_n dX6_refresh_16 rfl ?_
    refine E_getR dX6_refresh_17 fl_X6_17 (by first | assumption | rfl) (by assumption) rfl ?_
    refine E_iload_n dX6_refresh_20 rfl ?_
    refine E_zald dX6_refresh_21 (by first | assumption | rfl) (vp_in_nI hf (by omega)) ?_
    rw [hcl, hP f hf, hx]
    refine E_if_eq 41 dX6_refresh_22 (by decide) (fun c_22 => absurd c_22 (by simp)) (fun c_22 => ?_)
    refine E_aload_n dX6_refresh_25 rfl ?_
    refine E_getR dX6_refresh_26 fl_X6_11 (by first | assumption | rfl) (by assumption) rfl ?_
    refine E_iload_n dX6_refresh_29 rfl ?_
    refine E_aald dX6_refresh_30 (by first | assumption | rfl) (vp_in_nI hf (by omega)) (by rw [hcl]; exact w8 f hf) ?_
    refine E_ic 0 dX6_refresh_31 (by decide) ?_
    refine E_si 500 dX6_refresh_32 (by decide) ?_
    rw [show (0 : Int32) = nI 0 by decide, show (500 : Int32) = nI 500 by decide]
    refine cV2 (N := mX3_digestOf) dX6_refresh_35 cn_X3_digestOf lk_X6_54 ⟨Nat.le_of_ble_eq_true rfl, Nat.le_of_ble_eq_true rfl⟩ R.1 rfl (Nat.le_of_ble_eq_true rfl) ⟨rfl, rfl⟩ (c_Row_digestOf R (by omega) (by omega)) (fun v2 h2 ⟨hv2, hh2⟩ => ?_)
    subst hv2 hh2
    refine E_goto 42 dX6_refresh_38 (by decide) ?_
    exact start _ (by rw [leafD, hx]; simp; rw [List.take_of_length_le (show xs.length ≤ 500 from R.2.2.2.2.1)])
end
section
/-! Side: the files change -/
def SideA (sh : List Sh) (h : Hp) (s : Nat) (F : FS) : Prop := SideR sh h s F ∧ SideN h s F
def setF (F : FS) (f : Nat) (o : Option (List Nat)) : FS := fun g => if g = f then o else F g
theorem setF_off {F : FS} {f : Nat} {o : Option (List Nat)} : ∀ g, g ≠ f → setF F f o g = F g := fun g hg => by simp [setF, hg]
theorem setF_at {F : FS} {f : Nat} {o : Option (List Nat)} : setF F f o f = o := by simp [setF]
/-- one row and its flag are new -/
theorem SideR.set {sh : List Sh} {h h1 h2 : Hp} {s f : Nat} {F : FS} {o : Option (List Nat)} (S : SideR sh h s F) (hf : f < 8) (F1 : RowF h h1 (rId s f) (cId s f)) (R1 : RowL sh h1 (rId s f) (cId s f) 500 (o.getD [])) (hB : ∀ xs, o = some xs → ∀ x ∈ xs, x < 256) (e : h2 = sI h1 (s + 2) f (if o.isSome then 1 else 0)) : SideR sh h2 s (setF F f o) := by
  subst e
  obtain ⟨⟨w1, w2, w3, w4, w5, w6, w7, w8⟩, hR, hP, hB0⟩ := S
  have e2 : h1.2.2 = h.2.2 := by rw [F1.1]
  refine ⟨⟨w1, by rw [← e2] at w2; exact w2, by rw [← e2] at w3; exact w3, by rw [← e2] at w4; exact w4, w5, w6, w7, fun g hg => by have := w8 g hg; rw [← e2] at this; exact this⟩, fun g hg => ?_, fun g hg => ?_, fun g xs hx => ?_⟩
  · by_cases e : g = f
    · subst e
      rw [setF_at]
      refine R1.keep ?_ ?_ rfl
      · funext j; simp [sI, u2, rId]; omega
      · funext j; simp [sI, u2, cId]; omega
    · rw [setF_off g e]
      refine (hR g hg).keep ?_ ?_ (by show h1.2.2 _ = _; rw [e2])
      · rw [← F1.2 (rId s g) (by unfold rId; omega) (by unfold rId cId; omega)]
        funext j; simp [sI, u2, rId]; omega
      · rw [← F1.2 (cId s g) (by unfold rId cId; omega) (by unfold cId; omega)]
        funext j; simp [sI, u2, cId]; omega
  · by_cases e : g = f
    · subst e
      rw [setF_at]
      simp [sI, u2]
    · rw [setF_off g e, ← hP g hg, ← F1.2 (s + 2) (by unfold rId; omega) (by unfold cId; omega)]
      simp [sI, u2, e]
  · by_cases e : g = f
    · subst e
      rw [setF_at] at hx
      exact hB xs hx
    · rw [setF_off g e] at hx
      exact hB0 g xs hx
theorem sI_side {h h1 : Hp} {s k : Nat} {x : Int32} (F1 : SideF h h1 s) : SideF h (sI h1 (s + 2) k x) s := by
  refine ⟨F1.1, fun a ha => ⟨?_, (F1.2 a ha).2⟩⟩
  rw [← (F1.2 a ha).1]
  funext j
  simp [sI, u2]
  omega
theorem SideA.fin {sh : List Sh} {h h2 h3 : Hp} {s : Nat} {G : FS} (S : SideR sh h2 s G) (F2 : SideF h h2 s) (N : SideN h3 s G) (e1 : h3.1 = h2.1) (e2 : h3.2.2 = h2.2.2) (e3 : ∀ a, a ≠ s + 3 → h3.2.1 a = h2.2.1 a) : SideA sh h3 s G ∧ SideF h h3 s := by
  refine ⟨⟨S.off (fun a _ _ => by rw [e1]) (fun a _ _ => by rw [e2]), N⟩, e2.trans F2.1, fun a ha => ⟨?_, ?_⟩⟩
  · rw [e1]; exact (F2.2 a ha).1
  · rw [e3 a (by omega)]; exact (F2.2 a ha).2
theorem SideN.keep {h h1 : Hp} {s : Nat} {F : FS} (N : SideN h s F) (e : h1.2.1 = h.2.1) : SideN h1 s F := fun n a b => by rw [e]; exact N n a b
theorem c_remove {sh : List Sh} {h : Hp} {s f : Nat} {F : FS} (S : SideA sh h s F) (hf : f < 8) : Sp0 mX6_remove [.ref s, .int (nI f)] sh h (fun v h' => v = none ∧ SideA sh h' s (setF F f none) ∧ SideF h h' s) := by
  have S0 := S.1
  have N0 := S.2
  have R := S0.2.1 f hf
  obtain ⟨⟨w1, w2, w3, w4, w5, w6, w7, w8⟩, hR, hP, hB⟩ := S.1
  have hcl : (nI f).toNatClampNeg = f := nI_clamp (by omega)
  refine Sp0.of (by decide) (Nat.le_of_ble_eq_true rfl) ?_
  show E mX6_remove none _ 0 [some (.ref s), some (.int (nI f))] [] sh h 0 0
  refine E_iload_n dX6_remove_0 rfl ?_
  refine cS1 (N := mX8_isFile) dX6_remove_1 cn_X8_isFile lk_X6_31 ⟨Nat.le_of_ble_eq_true rfl, Nat.le_of_ble_eq_true rfl⟩ (Nat.le_of_ble_eq_true rfl) ⟨rfl, rfl⟩ (c_isFile _) (fun v2 h2 ⟨hv2, hh2⟩ => ?_)
  rw [hv2, hh2]
  rw [if_pos (show 0 ≤ (nI f).toInt ∧ (nI f).toInt < 8 from isF_nI hf)]
  refine E_if_ne 8 dX6_remove_4 (by decide) (fun c_4 => ?_) (fun c_4 => absurd c_4 (by decide))
  refine E_aload_n dX6_remove_8 rfl ?_
  refine E_getR dX6_remove_9 fl_X6_11 (by first | assumption | rfl) (by assumption) rfl ?_
  refine E_iload_n dX6_remove_12 rfl ?_
  refine E_aald dX6_remove_13 (by first | assumption | rfl) (vp_in_nI hf (by omega)) (by rw [hcl]; exact w8 f hf) ?_
  refine E_ic 0 dX6_remove_14 (by decide) ?_
  rw [show (0 : Int32) = nI 0 by decide]
  refine cV1 (N := mX3_keep) dX6_remove_15 cn_X3_keep lk_X6_47 ⟨Nat.le_of_ble_eq_true rfl, Nat.le_of_ble_eq_true rfl⟩ R.1 rfl (Nat.le_of_ble_eq_true rfl) ⟨rfl, rfl⟩ (c_Row_keep R (by omega)) (fun v3 h3 ⟨hv3, R3, F3⟩ => ?_)
  rw [hv3]
  have e3 : h3.2.2 s 1 = some (s + 2) := by rw [F3.1]; exact w3
  refine E_aload_n dX6_remove_18 rfl ?_
  refine E_getR dX6_remove_19 fl_X6_17 (by first | assumption | rfl) (by assumption) rfl ?_
  refine E_iload_n dX6_remove_22 rfl ?_
  refine E_ic 0 dX6_remove_23 (by decide) ?_
  refine E_zast dX6_remove_24 (by first | assumption | rfl) (vp_in_nI hf (by omega)) ?_
  rw [hcl]
  have S4 := S0.set (o := none) hf F3 (by simpa using R3) (fun _ q => by cases q) rfl
  refine E_aload_n dX6_remove_25 rfl ?_
  refine E_iload_n dX6_remove_26 rfl ?_
  refine cV1 (N := mX6_refresh) dX6_remove_27 cn_X6_refresh lk_X6_28 ⟨Nat.le_of_ble_eq_true rfl, Nat.le_of_ble_eq_true rfl⟩ (by first | assumption | rfl) rfl (Nat.le_of_ble_eq_true rfl) ⟨rfl, rfl⟩ (c_refresh hf S4 (N0.keep (by show h3.2.1 = _; rw [F3.1])) setF_off) (fun v5 h5 ⟨hv5, N5, e51, e52, e53⟩ => ?_)
  rw [hv5]
  exact E_retv dX6_remove_30 rfl (Nat.le_of_ble_eq_true rfl) (Nat.le_of_ble_eq_true rfl) ⟨rfl, rfl, SideA.fin S4 (sI_side (F3.side hf)) N5 e51 e52 e53⟩
theorem c_replace {sh : List Sh} {h : Hp} {s f r2 c2 m2 : Nat} {F : FS} {ys : List Nat} (S : SideA sh h s F) (hf : f < 8) (Y : RowL sh h r2 c2 m2 ys) (n1 : r2 ≠ rId s f) (n2 : c2 ≠ cId s f) (hY : ∀ x ∈ ys, x < 256) : Sp0 mX6_replace [.ref s, .int (nI f), .ref r2] sh h (fun v h' => v = none ∧ SideA sh h' s (setF F f (some ys)) ∧ SideF h h' s) := by
  have S0 := S.1
  have N0 := S.2
  have R := S0.2.1 f hf
  have n3 : r2 ≠ cId s f := by
    intro e
    have h1 := Y.1
    rw [e, R.2.2.1] at h1
    cases h1
  have n4 : c2 ≠ rId s f := by
    intro e
    have h1 := R.1
    rw [← e, Y.2.2.1] at h1
    cases h1
  obtain ⟨⟨w1, w2, w3, w4, w5, w6, w7, w8⟩, hR, hP, hB⟩ := S.1
  have hcl : (nI f).toNatClampNeg = f := nI_clamp (by omega)
  refine Sp0.of (by decide) (Nat.le_of_ble_eq_true rfl) ?_
  show E mX6_replace none _ 0 [some (.ref s), some (.int (nI f)), some (.ref r2)] [] sh h 0 0
  refine E_iload_n dX6_replace_0 rfl ?_
  refine cS1 (N := mX8_isFile) dX6_replace_1 cn_X8_isFile lk_X6_31 ⟨Nat.le_of_ble_eq_true rfl, Nat.le_of_ble_eq_true rfl⟩ (Nat.le_of_ble_eq_true rfl) ⟨rfl, rfl⟩ (c_isFile _) (fun v2 h2 ⟨hv2, hh2⟩ => ?_)
  rw [hv2, hh2]
  rw [if_pos (show 0 ≤ (nI f).toInt ∧ (nI f).toInt < 8 from isF_nI hf)]
  refine E_if_ne 8 dX6_replace_4 (by decide) (fun c_4 => ?_) (fun c_4 => absurd c_4 (by decide))
  refine E_aload_n dX6_replace_8 rfl ?_
  refine E_getR dX6_replace_9 fl_X6_11 (by first | assumption | rfl) (by assumption) rfl ?_
  refine E_iload_n dX6_replace_12 rfl ?_
  refine E_aald dX6_replace_13 (by first | assumption | rfl) (vp_in_nI hf (by omega)) (by rw [hcl]; exact w8 f hf) ?_
  refine E_ic 0 dX6_replace_14 (by decide) ?_
  rw [show (0 : Int32) = nI 0 by decide]
  refine cV1 (N := mX3_keep) dX6_replace_15 cn_X3_keep lk_X6_47 ⟨Nat.le_of_ble_eq_true rfl, Nat.le_of_ble_eq_true rfl⟩ R.1 rfl (Nat.le_of_ble_eq_true rfl) ⟨rfl, rfl⟩ (c_Row_keep R (by omega)) (fun v3 h3 ⟨hv3, R3, F3⟩ => ?_)
  rw [hv3]
  have e3 : h3.2.2 = h.2.2 := by rw [F3.1]
  have w2' : h3.2.2 s 0 = some (s + 1) := by rw [e3]; exact w2
  refine E_aload_n dX6_replace_18 rfl ?_
  refine E_getR dX6_replace_19 fl_X6_11 (by first | assumption | rfl) (by assumption) rfl ?_
  refine E_iload_n dX6_replace_22 rfl ?_
  refine E_aald dX6_replace_23 (by first | assumption | rfl) (vp_in_nI hf (by omega)) (by rw [hcl, e3]; exact w8 f hf) ?_
  refine E_aload_n dX6_replace_24 rfl ?_
  refine cV1 (N := mX3_addAll) dX6_replace_25 cn_X3_addAll lk_X6_50 ⟨Nat.le_of_ble_eq_true rfl, Nat.le_of_ble_eq_true rfl⟩ R.1 rfl (Nat.le_of_ble_eq_true rfl) ⟨rfl, rfl⟩ (c_Row_addAll R3 (Y.other F3 n1 n3 n4 n2) n1 n2) (fun v4 h4 ⟨hv4, R4, F4⟩ => ?_)
  rw [hv4]
  have e4 : h4.2.2 = h.2.2 := by rw [F4.1]; exact e3
  have w3' : h4.2.2 s 1 = some (s + 2) := by rw [e4]; exact w3
  refine E_aload_n dX6_replace_28 rfl ?_
  refine E_getR dX6_replace_29 fl_X6_17 (by first | assumption | rfl) (by assumption) rfl ?_
  refine E_iload_n dX6_replace_32 rfl ?_
  refine E_ic 1 dX6_replace_33 (by decide) ?_
  refine E_zast dX6_replace_34 (by first | assumption | rfl) (vp_in_nI hf (by omega)) ?_
  rw [hcl]
  have S5 := S0.set (o := some ys) hf (F3.tr F4) (by have hm := Y.2.2.2.2.1; have hm5 := Y.2.2.2.2.2.1; rw [List.take_zero, List.nil_append, List.take_of_length_le (by omega)] at R4; exact R4) (fun xs q => by cases q; exact hY) rfl
  refine E_aload_n dX6_replace_35 rfl ?_
  refine E_iload_n dX6_replace_36 rfl ?_
  refine cV1 (N := mX6_refresh) dX6_replace_37 cn_X6_refresh lk_X6_28 ⟨Nat.le_of_ble_eq_true rfl, Nat.le_of_ble_eq_true rfl⟩ (by first | assumption | rfl) rfl (Nat.le_of_ble_eq_true rfl) ⟨rfl, rfl⟩ (c_refresh hf S5 (N0.keep (by show h4.2.1 = _; rw [F4.1, F3.1])) setF_off) (fun v5 h5 ⟨hv5, N5, e51, e52, e53⟩ => ?_)
  rw [hv5]
  exact E_retv dX6_replace_40 rfl (Nat.le_of_ble_eq_true rfl) (Nat.le_of_ble_eq_true rfl) ⟨rfl, rfl, SideA.fin S5 (sI_side ((F3.tr F4).side hf)) N5 e51 e52 e53⟩
/-- the lowest k bytes of a number, the highest of them first -/
def lowB (x : Int64) (k : Nat) : List Nat := (List.range k).map (fun i => x.toBitVec.toNat / 2 ^ (8 * (k - 1 - i)) % 256)
theorem lowB_lt (x : Int64) (k : Nat) : ∀ y ∈ lowB x k, y < 256 := by
  intro y hy
  obtain ⟨i, -, rfl⟩ := List.mem_map.mp hy
  exact Nat.mod_lt _ (by decide)
theorem lowB_at (x : Int64) {k i : Nat} (h : i < k) : (lowB x k).getD i 0 = x.toBitVec.toNat / 2 ^ (8 * (k - 1 - i)) % 256 := by simp [lowB, List.getD, h]
theorem lowB_len (x : Int64) (k : Nat) : (lowB x k).length = k := by simp [lowB]
theorem sh_l (x : Int64) {t : Nat} (h : t < 64) : ((x.toUInt64 >>> ((nI t).toInt64.toUInt64 &&& Int64.toUInt64 63)).toInt64.toInt32 &&& 255) = nI (x.toBitVec.toNat / 2 ^ t % 256) := by
  obtain ⟨n, hn, rfl⟩ := wb_of x
  rw [wb_shr hn h, lN_i, wb_tn hn]
  have e := pk_and (nI (n / 2 ^ t)) (m := 255) 8 (by decide)
  rw [e]
  congr 1
  have e2 : (nI (n / 2 ^ t)).toBitVec.toNat = n / 2 ^ t % 2 ^ 32 := by
    show (BitVec.ofNat 32 (n / 2 ^ t)).toNat = _
    exact BitVec.toNat_ofNat _ _
  rw [e2]
  omega
def putL (xs : List Nat) (a : Nat) (bs : List Nat) : List Nat := xs.take a ++ bs ++ xs.drop (a + bs.length)
theorem putL_step {xs bs : List Nat} {a i : Nat} (ha : a ≤ xs.length) (hi : i < bs.length) (hm : a + bs.length ≤ 500) : rset (putL xs a (bs.take i)) (a + i) (bs.getD i 0) 500 = putL xs a (bs.take (i + 1)) := by
  have hl : (bs.take i).length = i := by simp; omega
  have hl2 : (bs.take (i + 1)).length = i + 1 := by simp; omega
  have hlen : (putL xs a (bs.take i)).length = a + i + (xs.length - (a + i)) := by simp [putL]; omega
  unfold rset
  by_cases hx : a + i < xs.length
  · rw [if_pos (by omega)]
    unfold putL
    rw [hl, hl2, take_s hi]
    have e1 : xs.drop (a + i) = xs[a + i] :: xs.drop (a + (i + 1)) := by rw [List.drop_eq_getElem_cons hx]; rfl
    rw [e1, List.set_append_right _ _ (by simp; omega)]
    have e2 : a + i - (xs.take a ++ bs.take i).length = 0 := by simp; omega
    rw [e2]
    simp
  · rw [if_neg (by omega), if_pos (by omega)]
    unfold putL
    rw [hl, hl2, take_s hi, List.drop_of_length_le (by omega), List.drop_of_length_le (by omega)]
    simp
theorem putL_lt {xs bs : List Nat} {a : Nat} (h1 : ∀ x ∈ xs, x < 256) (h2 : ∀ x ∈ bs, x < 256) : ∀ x ∈ putL xs a bs, x < 256 := by
  intro x hx
  unfold putL at hx
  rcases List.mem_append.mp hx with q | q
  · rcases List.mem_append.mp q with q | q
    · exact h1 x (List.mem_of_mem_take q)
    · exact h2 x q
  · exact h1 x (List.mem_of_mem_drop q)
theorem c_put {sh : List Sh} {h : Hp} {s f a k : Nat} {F : FS} {x : Int64} (S : SideA sh h s F) (hf : f < 8) (ha : a ≤ ((F f).getD []).length) (hk : k ≤ 8) (hak : a + k ≤ 500) : Sp0 mX6_put [.ref s, .int (nI f), .int (nI a), .long x, .int (nI k)] sh h (fun v h' => v = none ∧ SideA sh h' s (setF F f (some (putL ((F f).getD []) a (lowB x k)))) ∧ SideF h h' s) := by
  have S0 := S.1
  have N0 := S.2
  have R := S0.2.1 f hf
  have hXB : ∀ y ∈ (F f).getD [], y < 256 := by
    intro y hy
    cases hx : F f with
    | none => rw [hx] at hy; cases hy
    | some xs => rw [hx] at hy; exact S0.2.2.2 f xs hx y hy
  generalize (F f).getD [] = xs at ha R hXB ⊢
  obtain ⟨⟨w1, w2, w3, w4, w5, w6, w7, w8⟩, hR, hP, hB⟩ := S.1
  have hcl : (nI f).toNatClampNeg = f := nI_clamp (by omega)
  refine Sp0.of (by decide) (Nat.le_of_ble_eq_true rfl) ?_
  show E mX6_put none _ 0 [some (.ref s), some (.int (nI f)), some (.int (nI a)), some (.long x), none, some (.int (nI k)), none] [] sh h 0 0
  have tail : ∀ h3 : Hp, RowL sh h3 (rId s f) (cId s f) 500 (putL xs a (lowB x k)) → RowF h h3 (rId s f) (cId s f) → E mX6_put none (fun v sh' h' => sh' = sh ∧ v = none ∧ SideA sh h' s (setF F f (some (putL xs a (lowB x k)))) ∧ SideF h h' s) 54 [some (.ref s), some (.int (nI f)), some (.int (nI a)), some (.long x), none, some (.int (nI k)), some (.int (nI k))] [] sh h3 0 0 := by
    intro h3 R3 F3
    have w3' : h3.2.2 s 1 = some (s + 2) := by rw [F3.1]; exact w3
    refine E_aload_n dX6_put_54 rfl ?_
    refine E_getR dX6_put_55 fl_X6_17 (by first | assumption | rfl) (by assumption) rfl ?_
    refine E_iload_n dX6_put_58 rfl ?_
    refine E_ic 1 dX6_put_59 (by decide) ?_
    refine E_zast dX6_put_60 (by first | assumption | rfl) (vp_in_nI hf (by omega)) ?_
    rw [hcl]
    have S5 := S0.set (o := some (putL xs a (lowB x k))) hf F3 R3 (fun zs q => by cases q; exact putL_lt hXB (lowB_lt x k)) rfl
    refine E_aload_n dX6_put_61 rfl ?_
    refine E_iload_n dX6_put_62 rfl ?_
    refine cV1 (N := mX6_refresh) dX6_put_63 cn_X6_refresh lk_X6_28 ⟨Nat.le_of_ble_eq_true rfl, Nat.le_of_ble_eq_true rfl⟩ (by first | assumption | rfl) rfl (Nat.le_of_ble_eq_true rfl) ⟨rfl, rfl⟩ (c_refresh hf S5 (N0.keep (by show h3.2.1 = _; rw [F3.1])) setF_off) (fun v5 h5 ⟨hv5, N5, e51, e52, e53⟩ => ?_)
    rw [hv5]
    exact E_retv dX6_put_66 rfl (Nat.le_of_ble_eq_true rfl) (Nat.le_of_ble_eq_true rfl) ⟨rfl, rfl, SideA.fin S5 (sI_side (F3.side hf)) N5 e51 e52 e53⟩
  have loop : ∀ (n t : Nat) (h3 : Hp), k - t ≤ n → t ≤ k → RowL sh h3 (rId s f) (cId s f) 500 (putL xs a ((lowB x k).take t)) → RowF h h3 (rId s f) (cId s f) → E mX6_put none (fun v sh' h' => sh' = sh ∧ v = none ∧ SideA sh h' s (setF F f (some (putL xs a (lowB x k)))) ∧ SideF h h' s) 11 [some (.ref s), some (.int (nI f)), some (.int (nI a)), some (.long x), none, some (.int (nI k)), some (.int (nI t))] [] sh h3 0 0 := by
    intro n
    induction n with
    | zero =>
      intro t h3 h1 h2 R3 F3
      have e : t = k := by omega
      subst e
      refine E_iload dX6_put_11 rfl ?_
      refine E_iload dX6_put_13 rfl ?_
      refine E_icmp_ge 54 dX6_put_15 (by decide) (fun c_15 => ?_) (fun c_15 => absurd (nI_le (by omega) (by omega)) c_15)
      exact tail h3 (by rw [List.take_of_length_le (by rw [lowB_len]; omega)] at R3; exact R3) F3
    | succ n ih =>
      intro t h3 h1 h2 R3 F3
      by_cases e : t = k
      · subst e
        refine E_iload dX6_put_11 rfl ?_
        refine E_iload dX6_put_13 rfl ?_
        refine E_icmp_ge 54 dX6_put_15 (by decide) (fun c_15 => ?_) (fun c_15 => absurd (nI_le (by omega) (by omega)) c_15)
        exact tail h3 (by rw [List.take_of_length_le (by rw [lowB_len]; omega)] at R3; exact R3) F3
      · have w2' : h3.2.2 s 0 = some (s + 1) := by rw [F3.1]; exact w2
        have hlen : a + t ≤ (putL xs a ((lowB x k).take t)).length := by simp [putL, lowB_len]; omega
        refine E_iload dX6_put_11 rfl ?_
        refine E_iload dX6_put_13 rfl ?_
        refine E_icmp_ge 54 dX6_put_15 (by decide) (fun c_15 => absurd c_15 (nI_ge (by omega) (by omega))) (fun c_15 => ?_)
        refine E_aload_n dX6_put_18 rfl ?_
        refine E_getR dX6_put_19 fl_X6_11 (by first | assumption | rfl) (by assumption) rfl ?_
        refine E_iload_n dX6_put_22 rfl ?_
        refine E_aald dX6_put_23 (by first | assumption | rfl) (vp_in_nI hf (by omega)) (by rw [hcl, F3.1]; exact w8 f hf) ?_
        refine E_iload_n dX6_put_24 rfl ?_
        refine E_iload dX6_put_25 rfl ?_
        refine E_iadd dX6_put_27 ?_
        refine E_lload_n dX6_put_28 rfl ?_
        refine E_bi 8 dX6_put_29 (by decide) ?_
        refine E_iload dX6_put_31 rfl ?_
        refine E_ic 1 dX6_put_33 (by decide) ?_
        refine E_isub dX6_put_34 ?_
        refine E_iload dX6_put_35 rfl ?_
        refine E_isub dX6_put_37 ?_
        refine E_imul dX6_put_38 ?_
        refine E_lushr dX6_put_39 ?_
        refine E_l2i dX6_put_40 ?_
        refine E_si 255 dX6_put_41 (by decide) ?_
        refine E_iand dX6_put_44 ?_
        rw [nI_add, show (8 : Int32) = nI 8 by decide, show (1 : Int32) = nI 1 by decide, pk_sub (by omega), pk_sub (by omega), pk_mul, sh_l x (by omega), ← lowB_at x (by omega)]
        refine cV2 (N := mX3_set) dX6_put_45 cn_X3_set lk_X6_43 ⟨Nat.le_of_ble_eq_true rfl, Nat.le_of_ble_eq_true rfl⟩ R3.1 rfl (Nat.le_of_ble_eq_true rfl) ⟨rfl, rfl⟩ (c_Row_set R3 hlen) (fun v4 h4 ⟨hv4, R4, F4⟩ => ?_)
        rw [hv4]
        refine E_iinc dX6_put_48 rfl (by decide) ?_
        refine E_goto 11 dX6_put_51 (by decide) ?_
        rw [nI_inc]
        rw [putL_step ha (by rw [lowB_len]; omega) (by rw [lowB_len]; omega)] at R4
        exact ih (t + 1) h4 (by omega) (by omega) R4 (F3.tr F4)
  refine E_iload_n dX6_put_0 rfl ?_
  refine cS1 (N := mX8_isFile) dX6_put_1 cn_X8_isFile lk_X6_31 ⟨Nat.le_of_ble_eq_true rfl, Nat.le_of_ble_eq_true rfl⟩ (Nat.le_of_ble_eq_true rfl) ⟨rfl, rfl⟩ (c_isFile _) (fun v2 h2 ⟨hv2, hh2⟩ => ?_)
  rw [hv2, hh2]
  rw [if_pos (show 0 ≤ (nI f).toInt ∧ (nI f).toInt < 8 from isF_nI hf)]
  refine E_if_ne 8 dX6_put_4 (by decide) (fun c_4 => ?_) (fun c_4 => absurd c_4 (by decide))
  refine E_ic 0 dX6_put_8 (by decide) ?_
  refine E_istore dX6_put_9 (by decide) ?_
  exact loop k 0 h (by omega) (by omega) (by simpa [putL] using R) RowF.rf
end
section
/-! RollingSync$Sums, strong, Math -/
def Fr (lo hi : Nat) (h h' : Hp) : Prop := h'.2.2 = h.2.2 ∧ ∀ a, a < lo ∨ hi ≤ a → h'.1 a = h.1 a ∧ h'.2.1 a = h.2.1 a
theorem Fr.rf {lo hi : Nat} {h : Hp} : Fr lo hi h h := ⟨rfl, fun _ _ => ⟨rfl, rfl⟩⟩
theorem Fr.tr {lo hi : Nat} {h h1 h2 : Hp} (a : Fr lo hi h h1) (b : Fr lo hi h1 h2) : Fr lo hi h h2 := ⟨b.1.trans a.1, fun x q => ⟨(b.2 x q).1.trans (a.2 x q).1, (b.2 x q).2.trans (a.2 x q).2⟩⟩
theorem Fr.wide {lo hi lo2 hi2 : Nat} {h h1 : Hp} (a : Fr lo hi h h1) (h2 : lo2 ≤ lo) (h3 : hi ≤ hi2) : Fr lo2 hi2 h h1 := ⟨a.1, fun x q => a.2 x (by omega)⟩
theorem Fr_sI {lo hi a k : Nat} {x : Int32} {h h1 : Hp} (F : Fr lo hi h h1) (h2 : lo ≤ a) (h3 : a < hi) : Fr lo hi h (sI h1 a k x) := by
  refine ⟨F.1, fun b q => ⟨?_, (F.2 b q).2⟩⟩
  rw [← (F.2 b q).1]
  funext j
  have : b ≠ a := by omega
  simp [sI, u2, this]
theorem Fr_sL {lo hi a k : Nat} {x : Int64} {h h1 : Hp} (F : Fr lo hi h h1) (h2 : lo ≤ a) (h3 : a < hi) : Fr lo hi h (sL h1 a k x) := by
  refine ⟨F.1, fun b q => ⟨(F.2 b q).1, ?_⟩⟩
  rw [← (F.2 b q).2]
  funext j
  have : b ≠ a := by omega
  simp [sL, u2, this]
theorem c_max {sh : List Sh} {h : Hp} (x y : Int32) : Sp0 mJ9_max_7cf53 [.int x, .int y] sh h (fun v h' => v = some (.int (if x < y then y else x)) ∧ h' = h) := by
  refine Sp0F_of (by decide +kernel) (Nat.le_of_ble_eq_true rfl) ?_
  show E mJ9_max_7cf53 none _ 0 [some (.int x), some (.int y)] [] sh h 0 0
  refine E_iload_n dJ9_max_7cf53_0 rfl ?_
  refine E_iload_n dJ9_max_7cf53_1 rfl ?_
  refine E_icmp_lt 9 dJ9_max_7cf53_2 (by decide) (fun c_2 => ?_) (fun c_2 => ?_)
  · refine E_iload_n dJ9_max_7cf53_9 rfl ?_
    exact E_reti dJ9_max_7cf53_10 rfl rfl (Nat.le_of_ble_eq_true rfl) (Nat.le_of_ble_eq_true rfl) ⟨rfl, by rw [if_pos c_2], rfl⟩
  · refine E_iload_n dJ9_max_7cf53_5 rfl ?_
    refine E_goto 10 dJ9_max_7cf53_6 (by decide) ?_
    exact E_reti dJ9_max_7cf53_10 rfl rfl (Nat.le_of_ble_eq_true rfl) (Nat.le_of_ble_eq_true rfl) ⟨rfl, by rw [if_neg c_2], rfl⟩
theorem c_min {sh : List Sh} {h : Hp} (x y : Int32) : Sp0 mJ9_min_7cf53 [.int x, .int y] sh h (fun v h' => v = some (.int (if y < x then y else x)) ∧ h' = h) := by
  refine Sp0F_of (by decide +kernel) (Nat.le_of_ble_eq_true rfl) ?_
  show E mJ9_min_7cf53 none _ 0 [some (.int x), some (.int y)] [] sh h 0 0
  refine E_iload_n dJ9_min_7cf53_0 rfl ?_
  refine E_iload_n dJ9_min_7cf53_1 rfl ?_
  refine E_icmp_gt 9 dJ9_min_7cf53_2 (by decide) (fun c_2 => ?_) (fun c_2 => ?_)
  · refine E_iload_n dJ9_min_7cf53_9 rfl ?_
    exact E_reti dJ9_min_7cf53_10 rfl rfl (Nat.le_of_ble_eq_true rfl) (Nat.le_of_ble_eq_true rfl) ⟨rfl, by rw [if_pos c_2], rfl⟩
  · refine E_iload_n dJ9_min_7cf53_5 rfl ?_
    refine E_goto 10 dJ9_min_7cf53_6 (by decide) ?_
    exact E_reti dJ9_min_7cf53_10 rfl rfl (Nat.le_of_ble_eq_true rfl) (Nat.le_of_ble_eq_true rfl) ⟨rfl, by rw [if_neg c_2], rfl⟩
def strongF (d : Int64) (k : Nat) : Int64 := if 8 ≤ k then d else d &&& (((1 : Int64) <<< ((nI (8 * k)).toInt64 &&& 63)) - 1)
theorem c_strong {sh : List Sh} {h : Hp} (d : Int64) {k : Nat} (hk : k ≤ 100) : Sp0 mX8_strong [.long d, .int (nI k)] sh h (fun v h' => v = some (.long (strongF d k)) ∧ h' = h) := by
  refine Sp0.of (by decide) (Nat.le_of_ble_eq_true rfl) ?_
  show E mX8_strong none _ 0 [some (.long d), none, some (.int (nI k))] [] sh h 0 0
  refine E_iload_n dX8_strong_0 rfl ?_
  refine E_bi 8 dX8_strong_1 (by decide) ?_
  rw [show (8 : Int32) = nI 8 by decide]
  refine E_icmp_lt 10 dX8_strong_3 (by decide) (fun c_3 => ?_) (fun c_3 => ?_)
  · refine E_lload_n dX8_strong_10 rfl ?_
    refine E_lc 1 dX8_strong_11 (by decide) ?_
    refine E_bi 8 dX8_strong_12 (by decide) ?_
    refine E_iload_n dX8_strong_14 rfl ?_
    refine E_imul dX8_strong_15 ?_
    rw [show (8 : Int32) = nI 8 by decide, pk_mul]
    refine E_lshl dX8_strong_16 ?_
    refine E_lc 1 dX8_strong_17 (by decide) ?_
    refine E_lsub dX8_strong_18 ?_
    refine E_land dX8_strong_19 ?_
    exact E_retl dX8_strong_20 rfl (Nat.le_of_ble_eq_true rfl) (Nat.le_of_ble_eq_true rfl) ⟨rfl, by rw [strongF, if_neg (by have := (nI_ltI (by omega) (by omega)).mp c_3; omega)], rfl⟩
  · refine E_lload_n dX8_strong_6 rfl ?_
    refine E_goto 20 dX8_strong_7 (by decide) ?_
    exact E_retl dX8_strong_20 rfl (Nat.le_of_ble_eq_true rfl) (Nat.le_of_ble_eq_true rfl) ⟨rfl, by rw [strongF, if_pos (Nat.le_of_not_lt fun q => c_3 (nI_lt q (by omega)))], rfl⟩
def SumsR (sh : List Sh) (h : Hp) (s : Nat) (L : List (Int64 × Int64)) (B K : Nat) : Prop := sh[s]? = some (.inr 7) ∧ h.2.2 s 0 = some (s + 1) ∧ h.2.2 s 1 = some (s + 2) ∧ sh[s + 1]? = some (.inl (.long, 500)) ∧ sh[s + 2]? = some (.inl (.long, 500)) ∧ h.1 s 2 = nI L.length ∧ L.length ≤ 500 ∧ h.1 s 3 = nI B ∧ h.1 s 4 = nI K ∧ ∀ j, j < L.length → h.2.1 (s + 1) j = (L.getD j (0, 0)).1 ∧ h.2.1 (s + 2) j = (L.getD j (0, 0)).2
theorem SumsR.off {sh : List Sh} {h h' : Hp} {s B K : Nat} {L : List (Int64 × Int64)} (S : SumsR sh h s L B K) (h1 : h'.1 s = h.1 s) (h2 : ∀ a, s ≤ a → a < s + 3 → h'.2.1 a = h.2.1 a) (h3 : h'.2.2 s = h.2.2 s) : SumsR sh h' s L B K := by
  obtain ⟨a1, a2, a3, a4, a5, a6, a7, a8, a9, a10⟩ := S
  exact ⟨a1, by rw [h3]; exact a2, by rw [h3]; exact a3, a4, a5, by rw [h1]; exact a6, a7, by rw [h1]; exact a8, by rw [h1]; exact a9, fun j hj => by rw [h2 _ (by omega) (by omega), h2 _ (by omega) (by omega)]; exact a10 j hj⟩
theorem SumsR.fr {sh : List Sh} {h h' : Hp} {s B K lo hi : Nat} {L : List (Int64 × Int64)} (S : SumsR sh h s L B K) (F : Fr lo hi h h') (hd : s + 3 ≤ lo ∨ hi ≤ s) : SumsR sh h' s L B K := S.off (F.2 s (by omega)).1 (fun a _ _ => (F.2 a (by omega)).2) (by rw [F.1])
theorem c_Sums_count {sh : List Sh} {h : Hp} {s : Nat} (hr : sh[s]? = some (.inr 7)) : Sp0 mX7_count [.ref s] sh h (fun v h' => v = some (.int (h.1 s 2)) ∧ h' = h) := by
  refine Sp0.of (by decide) (Nat.le_of_ble_eq_true rfl) ?_
  show E mX7_count none _ 0 [some (.ref s)] [] sh h 0 0
  refine E_aload_n dX7_count_0 rfl ?_
  refine E_getI dX7_count_1 fl_X7_18 (by first | assumption | rfl) rfl ?_
  exact E_reti dX7_count_4 rfl rfl (Nat.le_of_ble_eq_true rfl) (Nat.le_of_ble_eq_true rfl) ⟨rfl, rfl, rfl⟩
theorem c_Sums_block {sh : List Sh} {h : Hp} {s : Nat} (hr : sh[s]? = some (.inr 7)) : Sp0 mX7_block [.ref s] sh h (fun v h' => v = some (.int (h.1 s 3)) ∧ h' = h) := by
  refine Sp0.of (by decide) (Nat.le_of_ble_eq_true rfl) ?_
  show E mX7_block none _ 0 [some (.ref s)] [] sh h 0 0
  refine E_aload_n dX7_block_0 rfl ?_
  refine E_getI dX7_block_1 fl_X7_22 (by first | assumption | rfl) rfl ?_
  exact E_reti dX7_block_4 rfl rfl (Nat.le_of_ble_eq_true rfl) (Nat.le_of_ble_eq_true rfl) ⟨rfl, rfl, rfl⟩
theorem c_Sums_k {sh : List Sh} {h : Hp} {s : Nat} (hr : sh[s]? = some (.inr 7)) : Sp0 mX7_k [.ref s] sh h (fun v h' => v = some (.int (h.1 s 4)) ∧ h' = h) := by
  refine Sp0.of (by decide) (Nat.le_of_ble_eq_true rfl) ?_
  show E mX7_k none _ 0 [some (.ref s)] [] sh h 0 0
  refine E_aload_n dX7_k_0 rfl ?_
  refine E_getI dX7_k_1 fl_X7_25 (by first | assumption | rfl) rfl ?_
  exact E_reti dX7_k_4 rfl rfl (Nat.le_of_ble_eq_true rfl) (Nat.le_of_ble_eq_true rfl) ⟨rfl, rfl, rfl⟩
/-- WEAK and STRONG of block i of xs -/
def blk (B K : Nat) (xs : List Nat) (i : Nat) : Int64 × Int64 := (lN (wk B (fun j => xs.getD (B * i + j) 0)), strongF (dig ((xs.drop (B * i)).take B)) K)
def blks (B K : Nat) (xs : List Nat) : List (Int64 × Int64) := (List.range (xs.length / B)).map (blk B K xs)
theorem blks_len (B K : Nat) (xs : List Nat) : (blks B K xs).length = xs.length / B := by simp [blks]
theorem SumsR.push {sh : List Sh} {h : Hp} {s B K : Nat} {L : List (Int64 × Int64)} (S : SumsR sh h s L B K) (hl : L.length < 500) (p : Int64 × Int64) : SumsR sh (sI (sL (sL h (s + 1) L.length p.1) (s + 2) L.length p.2) s 2 (nI (L.length + 1))) s (L ++ [p]) B K := by
  obtain ⟨a1, a2, a3, a4, a5, a6, a7, a8, a9, a10⟩ := S
  refine ⟨a1, a2, a3, a4, a5, by simp [sI, u2], by simp; omega, by simp [sI, sL, u2, a8], by simp [sI, sL, u2, a9], fun j hj => ?_⟩
  simp at hj
  by_cases e : j = L.length
  · subst e
    simp [sI, sL, u2, List.getD]
  · have h2 : j < L.length := by omega
    have h1 := a10 j h2
    simp [sI, sL, u2, e, List.getD, List.getElem?_append_left h2] at h1 ⊢
    exact h1
theorem c_fillN {sh : List Sh} {h : Hp} {s B0 K0 B K : Nat} {L : List (Int64 × Int64)} (S : SumsR sh h s L B0 K0) : Sp0 mX7_fill [.ref s, .null, .int (nI B), .int (nI K)] sh h (fun v h' => v = none ∧ SumsR sh h' s [] B K ∧ Fr s (s + 3) h h') := by
  obtain ⟨a1, a2, a3, a4, a5, a6, a7, a8, a9, a10⟩ := S
  refine Sp0.of (by decide) (Nat.le_of_ble_eq_true rfl) ?_
  show E mX7_fill none _ 0 [some (.ref s), some .null, some (.int (nI B)), some (.int (nI K)), none] [] sh h 0 0
  refine E_aload_n dX7_fill_0 rfl ?_
  refine E_iload_n dX7_fill_1 rfl ?_
  refine E_putI dX7_fill_2 fl_X7_22 (by first | assumption | rfl) rfl ?_
  refine E_aload_n dX7_fill_5 rfl ?_
  refine E_iload_n dX7_fill_6 rfl ?_
  refine E_putI dX7_fill_7 fl_X7_25 (by first | assumption | rfl) rfl ?_
  refine E_aload_n dX7_fill_10 rfl ?_
  refine E_ic 0 dX7_fill_11 (by decide) ?_
  refine E_putI dX7_fill_12 fl_X7_18 (by first | assumption | rfl) rfl ?_
  refine E_aload_nN dX7_fill_15 rfl ?_
  refine E_ifnonnullN dX7_fill_16 ?_
  exact E_retv dX7_fill_19 rfl (Nat.le_of_ble_eq_true rfl) (Nat.le_of_ble_eq_true rfl) ⟨rfl, rfl, ⟨a1, a2, a3, a4, a5, by simp [sI, u2, nI], by simp, by simp [sI, u2], by simp [sI, u2], fun j hj => by simp at hj⟩, Fr_sI (Fr_sI (Fr_sI Fr.rf (by omega) (by omega)) (by omega) (by omega)) (by omega) (by omega)⟩
theorem c_fill {sh : List Sh} {h : Hp} {s B0 K0 B K r c : Nat} {L : List (Int64 × Int64)} {xs : List Nat} (S : SumsR sh h s L B0 K0) (R : RowL sh h r c 500 xs) (hX : ∀ x ∈ xs, x < 256) (hB0 : 0 < B) (hB : B ≤ 64) (hK : K ≤ 100) (hd : ∀ a, s ≤ a → a < s + 3 → a ≠ r ∧ a ≠ c) : Sp0 mX7_fill [.ref s, .ref r, .int (nI B), .int (nI K)] sh h (fun v h' => v = none ∧ SumsR sh h' s (blks B K xs) B K ∧ Fr s (s + 3) h h') := by
  obtain ⟨a1, a2, a3, a4, a5, a6, a7, a8, a9, a10⟩ := S
  have hm : xs.length ≤ 500 := R.2.2.2.2.1
  have hdiv : xs.length / B ≤ 500 := Nat.le_trans (Nat.div_le_self _ _) hm
  refine Sp0.of (by decide) (Nat.le_of_ble_eq_true rfl) ?_
  show E mX7_fill none _ 0 [some (.ref s), some (.ref r), some (.int (nI B)), some (.int (nI K)), none] [] sh h 0 0
  have loop : ∀ (n i : Nat) (h3 : Hp), xs.length / B - i ≤ n → i ≤ xs.length / B → SumsR sh h3 s ((List.range i).map (blk B K xs)) B K → Fr s (s + 3) h h3 → E mX7_fill none (fun v sh' h' => sh' = sh ∧ v = none ∧ SumsR sh h' s (blks B K xs) B K ∧ Fr s (s + 3) h h') 23 [some (.ref s), some (.ref r), some (.int (nI B)), some (.int (nI K)), some (.int (nI (B * i)))] [] sh h3 0 0 := by
    intro n
    induction n with
    | zero =>
      intro i h3 h1 h2 S3 F3
      have e : i = xs.length / B := by omega
      have R3 : RowL sh h3 r c 500 xs := R.keep (F3.2 r (by have := hd r; omega)).1 (F3.2 c (by have := hd c; omega)).1 (by rw [F3.1])
      have hr := R3.1
      have b6 := S3.2.2.2.2.2.1
      have b8 := S3.2.2.2.2.2.2.2.1
      have hmul : B * i ≤ 500 := by rw [e]; exact Nat.le_trans (Nat.mul_div_le _ _) hm
      have hmore : ¬ (B * i + B ≤ xs.length) := by
        intro q
        have : (i + 1) ≤ xs.length / B := by rw [Nat.le_div_iff_mul_le hB0, Nat.add_mul, Nat.mul_comm]; omega
        omega
      refine E_aload_n dX7_fill_23 rfl ?_
      refine E_getI dX7_fill_24 fl_X7_18 (by first | assumption | rfl) rfl ?_
      refine E_si 500 dX7_fill_27 (by decide) ?_
      rw [b6]
      refine E_icmp_ge 113 dX7_fill_30 (by decide) (fun c_30 => ?_) (fun c_30 => ?_)
      · exact E_retv dX7_fill_113 rfl (Nat.le_of_ble_eq_true rfl) (Nat.le_of_ble_eq_true rfl) ⟨rfl, rfl, by rw [blks, ← e]; exact S3, F3⟩
      · refine E_aload_n dX7_fill_33 rfl ?_
        refine E_iload dX7_fill_34 rfl ?_
        refine E_aload_n dX7_fill_36 rfl ?_
        refine E_getI dX7_fill_37 fl_X7_22 (by first | assumption | rfl) rfl ?_
        rw [b8]
        refine cV2 (N := mX3_holds) dX7_fill_40 cn_X3_holds lk_X7_28 ⟨Nat.le_of_ble_eq_true rfl, Nat.le_of_ble_eq_true rfl⟩ (by first | assumption | rfl) rfl (Nat.le_of_ble_eq_true rfl) ⟨rfl, rfl⟩ (c_Row_holds R3 _ _) (fun v4 h4 ⟨hv4, hh4⟩ => ?_)
        rw [hv4, hh4]
        rw [if_neg (by rw [nI_toInt (by omega), nI_toInt (by omega)]; omega)]
        refine E_if_eq 113 dX7_fill_43 (by decide) (fun c_43 => ?_) (fun c_43 => absurd rfl c_43)
        exact E_retv dX7_fill_113 rfl (Nat.le_of_ble_eq_true rfl) (Nat.le_of_ble_eq_true rfl) ⟨rfl, rfl, by rw [blks, ← e]; exact S3, F3⟩
    | succ n ih =>
      intro i h3 h1 h2 S3 F3
      have R3 : RowL sh h3 r c 500 xs := R.keep (F3.2 r (by have := hd r; omega)).1 (F3.2 c (by have := hd c; omega)).1 (by rw [F3.1])
      have hr := R3.1
      have b2 := S3.2.1
      have b3 := S3.2.2.1
      have b6 := S3.2.2.2.2.2.1
      have b8 := S3.2.2.2.2.2.2.2.1
      have b9 := S3.2.2.2.2.2.2.2.2.1
      have hmul : B * i ≤ 500 := Nat.le_trans (Nat.mul_le_mul_left _ h2) (Nat.le_trans (Nat.mul_div_le _ _) hm)
      rw [show ((List.range i).map (blk B K xs)).length = i by simp] at b6
      by_cases e : i = xs.length / B
      · have hmore : ¬ (B * i + B ≤ xs.length) := by
          intro q
          have : (i + 1) ≤ xs.length / B := by rw [Nat.le_div_iff_mul_le hB0, Nat.add_mul, Nat.mul_comm]; omega
          omega
        refine E_aload_n dX7_fill_23 rfl ?_
        refine E_getI dX7_fill_24 fl_X7_18 (by first | assumption | rfl) rfl ?_
        refine E_si 500 dX7_fill_27 (by decide) ?_
        rw [b6]
        refine E_icmp_ge 113 dX7_fill_30 (by decide) (fun c_30 => ?_) (fun c_30 => ?_)
        · exact E_retv dX7_fill_113 rfl (Nat.le_of_ble_eq_true rfl) (Nat.le_of_ble_eq_true rfl) ⟨rfl, rfl, by rw [blks, ← e]; exact S3, F3⟩
        · refine E_aload_n dX7_fill_33 rfl ?_
          refine E_iload dX7_fill_34 rfl ?_
          refine E_aload_n dX7_fill_36 rfl ?_
          refine E_getI dX7_fill_37 fl_X7_22 (by first | assumption | rfl) rfl ?_
          rw [b8]
          refine cV2 (N := mX3_holds) dX7_fill_40 cn_X3_holds lk_X7_28 ⟨Nat.le_of_ble_eq_true rfl, Nat.le_of_ble_eq_true rfl⟩ (by first | assumption | rfl) rfl (Nat.le_of_ble_eq_true rfl) ⟨rfl, rfl⟩ (c_Row_holds R3 _ _) (fun v4 h4 ⟨hv4, hh4⟩ => ?_)
          rw [hv4, hh4]
          rw [if_neg (by rw [nI_toInt (by omega), nI_toInt (by omega)]; omega)]
          refine E_if_eq 113 dX7_fill_43 (by decide) (fun c_43 => ?_) (fun c_43 => absurd rfl c_43)
          exact E_retv dX7_fill_113 rfl (Nat.le_of_ble_eq_true rfl) (Nat.le_of_ble_eq_true rfl) ⟨rfl, rfl, by rw [blks, ← e]; exact S3, F3⟩
      · have hmore : B * i + B ≤ xs.length := by
          have : (i + 1) ≤ xs.length / B := by omega
          rw [Nat.le_div_iff_mul_le hB0, Nat.add_mul, Nat.mul_comm] at this
          omega
        have hi : i < 500 := by omega
        refine E_aload_n dX7_fill_23 rfl ?_
        refine E_getI dX7_fill_24 fl_X7_18 (by first | assumption | rfl) rfl ?_
        refine E_si 500 dX7_fill_27 (by decide) ?_
        rw [b6]
        refine E_icmp_ge 113 dX7_fill_30 (by decide) (fun c_30 => absurd c_30 (by rw [show (500 : Int32) = nI 500 by decide]; exact nI_ge (by omega) (by omega))) (fun c_30 => ?_)
        refine E_aload_n dX7_fill_33 rfl ?_
        refine E_iload dX7_fill_34 rfl ?_
        refine E_aload_n dX7_fill_36 rfl ?_
        refine E_getI dX7_fill_37 fl_X7_22 (by first | assumption | rfl) rfl ?_
        rw [b8]
        refine cV2 (N := mX3_holds) dX7_fill_40 cn_X3_holds lk_X7_28 ⟨Nat.le_of_ble_eq_true rfl, Nat.le_of_ble_eq_true rfl⟩ (by first | assumption | rfl) rfl (Nat.le_of_ble_eq_true rfl) ⟨rfl, rfl⟩ (c_Row_holds R3 _ _) (fun v4 h4 ⟨hv4, hh4⟩ => ?_)
        rw [hv4, hh4]
        rw [if_pos (by rw [nI_toInt (by omega), nI_toInt (by omega)]; omega)]
        refine E_if_eq 113 dX7_fill_43 (by decide) (fun c_43 => absurd c_43 (by decide)) (fun c_43 => ?_)
        refine E_aload_n dX7_fill_46 rfl ?_
        refine E_getR dX7_fill_47 fl_X7_9 (by first | assumption | rfl) (by assumption) rfl ?_
        refine E_aload_n dX7_fill_50 rfl ?_
        refine E_getI dX7_fill_51 fl_X7_18 (by first | assumption | rfl) rfl ?_
        refine E_aload_n dX7_fill_54 rfl ?_
        refine E_iload dX7_fill_55 rfl ?_
        refine E_aload_n dX7_fill_57 rfl ?_
        refine E_getI dX7_fill_58 fl_X7_22 (by first | assumption | rfl) rfl ?_
        rw [b6, b8]
        refine cV2 (N := mX3_weakOf) dX7_fill_61 cn_X3_weakOf lk_X7_34 ⟨Nat.le_of_ble_eq_true rfl, Nat.le_of_ble_eq_true rfl⟩ (by first | assumption | rfl) rfl (Nat.le_of_ble_eq_true rfl) ⟨rfl, rfl⟩ (c_Row_weakOf R3 hX hB hmore) (fun v5 h5 ⟨hv5, hh5⟩ => ?_)
        rw [hv5, hh5]
        refine E_last dX7_fill_64 (by first | assumption | rfl) (vp_in_nI hi (by omega)) ?_
        rw [nI_clamp (by omega)]
        have R6 : RowL sh (sL h3 (s + 1) i (lN (wk B fun j => xs.getD (B * i + j) 0))) r c 500 xs := R3
        refine E_aload_n dX7_fill_65 rfl ?_
        refine E_getR dX7_fill_66 fl_X7_15 (by first | assumption | rfl) (by assumption) rfl ?_
        refine E_aload_n dX7_fill_69 rfl ?_
        refine E_getI dX7_fill_70 fl_X7_18 (by first | assumption | rfl) rfl ?_
        refine E_aload_n dX7_fill_73 rfl ?_
        refine E_iload dX7_fill_74 rfl ?_
        refine E_aload_n dX7_fill_76 rfl ?_
        refine E_getI dX7_fill_77 fl_X7_22 (by first | assumption | rfl) rfl ?_
        rw [show (sL h3 (s + 1) i (lN (wk B fun j => xs.getD (B * i + j) 0))).1 s 2 = nI i from b6, show (sL h3 (s + 1) i (lN (wk B fun j => xs.getD (B * i + j) 0))).1 s 3 = nI B from b8]
        refine cV2 (N := mX3_digestOf) dX7_fill_80 cn_X3_digestOf lk_X7_38 ⟨Nat.le_of_ble_eq_true rfl, Nat.le_of_ble_eq_true rfl⟩ (by first | assumption | rfl) rfl (Nat.le_of_ble_eq_true rfl) ⟨rfl, rfl⟩ (c_Row_digestOf R6 (by omega) (by omega)) (fun v7 h7 ⟨hv7, hh7⟩ => ?_)
        rw [hv7, hh7]
        refine E_aload_n dX7_fill_83 rfl ?_
        refine E_getI dX7_fill_84 fl_X7_25 (by first | assumption | rfl) rfl ?_
        rw [show (sL h3 (s + 1) i (lN (wk B fun j => xs.getD (B * i + j) 0))).1 s 4 = nI K from b9]
        refine cS2 (N := mX8_strong) dX7_fill_87 cn_X8_strong lk_X7_41 ⟨Nat.le_of_ble_eq_true rfl, Nat.le_of_ble_eq_true rfl⟩ (Nat.le_of_ble_eq_true rfl) ⟨rfl, rfl⟩ (c_strong _ hK) (fun v8 h8 ⟨hv8, hh8⟩ => ?_)
        rw [hv8, hh8]
        refine E_last dX7_fill_90 (by first | assumption | rfl) (vp_in_nI hi (by omega)) ?_
        rw [nI_clamp (by omega)]
        refine E_aload_n dX7_fill_91 rfl ?_
        refine E_dup rfl dX7_fill_92 ?_
        refine E_getI dX7_fill_93 fl_X7_18 (by first | assumption | rfl) rfl ?_
        refine E_ic 1 dX7_fill_96 (by decide) ?_
        rw [show (sL (sL h3 (s + 1) i (lN (wk B fun j => xs.getD (B * i + j) 0))) (s + 2) i (strongF (dig (List.take B (List.drop (B * i) xs))) K)).1 s 2 = nI i from b6]
        refine E_iadd dX7_fill_97 ?_
        rw [show (1 : Int32) = nI 1 by decide, nI_add]
        refine E_putI dX7_fill_98 fl_X7_18 (by first | assumption | rfl) rfl ?_
        refine E_iload dX7_fill_101 rfl ?_
        refine E_aload_n dX7_fill_103 rfl ?_
        refine E_getI dX7_fill_104 fl_X7_22 (by first | assumption | rfl) rfl ?_
        refine E_iadd dX7_fill_107 ?_
        refine E_istore dX7_fill_108 (by decide) ?_
        have b8' : (sI (sL (sL h3 (s + 1) i (lN (wk B fun j => xs.getD (B * i + j) 0))) (s + 2) i (strongF (dig (List.take B (List.drop (B * i) xs))) K)) s 2 (nI (i + 1))).1 s 3 = nI B := by simp [sI, sL, u2, b8]
        rw [b8', nI_add, show B * i + B = B * (i + 1) by rw [Nat.mul_add, Nat.mul_one]]
        refine E_goto 23 dX7_fill_110 (by decide) ?_
        have S9 := S3.push (by simp; omega) (blk B K xs i)
        rw [show ((List.range i).map (blk B K xs)).length = i by simp, show (List.range i).map (blk B K xs) ++ [blk B K xs i] = (List.range (i + 1)).map (blk B K xs) by simp [List.range_succ]] at S9
        exact ih (i + 1) _ (by omega) (by omega) S9 (Fr_sI (Fr_sL (Fr_sL F3 (by omega) (by omega)) (by omega) (by omega)) (by omega) (by omega))
  refine E_aload_n dX7_fill_0 rfl ?_
  refine E_iload_n dX7_fill_1 rfl ?_
  refine E_putI dX7_fill_2 fl_X7_22 (by first | assumption | rfl) rfl ?_
  refine E_aload_n dX7_fill_5 rfl ?_
  refine E_iload_n dX7_fill_6 rfl ?_
  refine E_putI dX7_fill_7 fl_X7_25 (by first | assumption | rfl) rfl ?_
  refine E_aload_n dX7_fill_10 rfl ?_
  refine E_ic 0 dX7_fill_11 (by decide) ?_
  refine E_putI dX7_fill_12 fl_X7_18 (by first | assumption | rfl) rfl ?_
  refine E_aload_n dX7_fill_15 rfl ?_
  refine E_ifnonnull 20 dX7_fill_16 (by decide) ?_
  refine E_ic 0 dX7_fill_20 (by decide) ?_
  refine E_istore dX7_fill_21 (by decide) ?_
  exact loop (xs.length / B) 0 _ (Nat.sub_le _ _) (Nat.zero_le _) ⟨a1, a2, a3, a4, a5, by simp [sI, u2, nI], by simp, by simp [sI, u2], by simp [sI, u2], fun j hj => by simp at hj⟩ (Fr_sI (Fr_sI (Fr_sI Fr.rf (by omega) (by omega)) (by omega) (by omega)) (by omega) (by omega))
end
section
/-! Sums: copy, look up; Message; Line -/
theorem c_copyFrom {sh : List Sh} {h : Hp} {s t B0 K0 B K : Nat} {L0 L : List (Int64 × Int64)} (S : SumsR sh h s L0 B0 K0) (T : SumsR sh h t L B K) (hd : t + 3 ≤ s ∨ s + 3 ≤ t) : Sp0 mX7_copyFrom [.ref s, .ref t] sh h (fun v h' => v = none ∧ SumsR sh h' s L B K ∧ Fr s (s + 3) h h') := by
  obtain ⟨a1, a2, a3, a4, a5, a6, a7, a8, a9, a10⟩ := S
  obtain ⟨b1, b2, b3, b4, b5, b6, b7, b8, b9, b10⟩ := T
  have e0 : (0 : Int32).toNatClampNeg = 0 := by decide
  have hcl : (nI L.length).toNatClampNeg = L.length := nI_clamp (by omega)
  have hts : t ≠ s := by omega
  refine Sp0.of (by decide) (Nat.le_of_ble_eq_true rfl) ?_
  show E mX7_copyFrom none _ 0 [some (.ref s), some (.ref t)] [] sh h 0 0
  refine E_aload_n dX7_copyFrom_0 rfl ?_
  refine E_aload_n dX7_copyFrom_1 rfl ?_
  refine E_getI dX7_copyFrom_2 fl_X7_22 (by first | assumption | rfl) rfl ?_
  rw [b8]
  refine E_putI dX7_copyFrom_5 fl_X7_22 (by first | assumption | rfl) rfl ?_
  refine E_aload_n dX7_copyFrom_8 rfl ?_
  refine E_aload_n dX7_copyFrom_9 rfl ?_
  refine E_getI dX7_copyFrom_10 fl_X7_25 (by first | assumption | rfl) rfl ?_
  rw [show (sI h s 3 (nI B)).1 t 4 = nI K by simp [sI, u2, hts, b9]]
  refine E_putI dX7_copyFrom_13 fl_X7_25 (by first | assumption | rfl) rfl ?_
  refine E_aload_n dX7_copyFrom_16 rfl ?_
  refine E_aload_n dX7_copyFrom_17 rfl ?_
  refine E_getI dX7_copyFrom_18 fl_X7_18 (by first | assumption | rfl) rfl ?_
  rw [show (sI (sI h s 3 (nI B)) s 4 (nI K)).1 t 2 = nI L.length by simp [sI, u2, hts, b6]]
  refine E_putI dX7_copyFrom_21 fl_X7_18 (by first | assumption | rfl) rfl ?_
  generalize hh : sI (sI (sI h s 3 (nI B)) s 4 (nI K)) s 2 (nI L.length) = h3
  have i2 : h3.1 s 2 = nI L.length := by rw [← hh]; simp [sI, u2]
  have i3 : h3.1 s 3 = nI B := by rw [← hh]; simp [sI, u2]
  have i4 : h3.1 s 4 = nI K := by rw [← hh]; simp [sI, u2]
  have hl3 : h3.2.1 = h.2.1 := by rw [← hh]; rfl
  have hr3 : h3.2.2 = h.2.2 := by rw [← hh]; rfl
  have F3 : Fr s (s + 3) h h3 := by rw [← hh]; exact Fr_sI (Fr_sI (Fr_sI Fr.rf (by omega) (by omega)) (by omega) (by omega)) (by omega) (by omega)
  rw [← hr3] at a2 a3 b2 b3
  refine E_aload_n dX7_copyFrom_24 rfl ?_
  refine E_getR dX7_copyFrom_25 fl_X7_9 (by first | assumption | rfl) (by assumption) rfl ?_
  refine E_ic 0 dX7_copyFrom_28 (by decide) ?_
  refine E_aload_n dX7_copyFrom_29 rfl ?_
  refine E_getR dX7_copyFrom_30 fl_X7_9 (by first | assumption | rfl) (by assumption) rfl ?_
  refine E_ic 0 dX7_copyFrom_33 (by decide) ?_
  refine E_aload_n dX7_copyFrom_34 rfl ?_
  refine E_getI dX7_copyFrom_35 fl_X7_18 (by first | assumption | rfl) rfl ?_
  rw [i2]
  refine E_copyl dX7_copyFrom_38 ac_X7_45 ac_nat ac_st ac_in b4 a4 (by decide) (by decide) (nI_pos (by omega)) (by rw [e0, hcl]; omega) (by rw [e0, hcl]; omega) (by decide) (by decide) ?_
  rw [e0, hcl]
  refine E_aload_n dX7_copyFrom_41 rfl ?_
  refine E_getR dX7_copyFrom_42 fl_X7_15 (by first | assumption | rfl) (by assumption) rfl ?_
  refine E_ic 0 dX7_copyFrom_45 (by decide) ?_
  refine E_aload_n dX7_copyFrom_46 rfl ?_
  refine E_getR dX7_copyFrom_47 fl_X7_15 (by first | assumption | rfl) (by assumption) rfl ?_
  refine E_ic 0 dX7_copyFrom_50 (by decide) ?_
  refine E_aload_n dX7_copyFrom_51 rfl ?_
  refine E_getI dX7_copyFrom_52 fl_X7_18 (by first | assumption | rfl) rfl ?_
  rw [show (cpL h3 (t + 1) (s + 1) 0 0 L.length).1 s 2 = nI L.length from i2]
  refine E_copyl dX7_copyFrom_55 ac_X7_45 ac_nat ac_st ac_in b5 a5 (by decide) (by decide) (nI_pos (by omega)) (by rw [e0, hcl]; omega) (by rw [e0, hcl]; omega) (by decide) (by decide) ?_
  rw [e0, hcl]
  refine E_retv dX7_copyFrom_58 rfl (Nat.le_of_ble_eq_true rfl) (Nat.le_of_ble_eq_true rfl) ?_
  refine ⟨rfl, rfl, ⟨a1, a2, a3, a4, a5, i2, b7, i3, i4, fun j hj => ?_⟩, F3.1, fun a ha => ⟨(F3.2 a ha).1, ?_⟩⟩
  · have q := b10 j hj
    rw [← hl3] at q
    have n1 : s + 1 ≠ s + 2 := by omega
    have n2 : t + 2 ≠ s + 1 := by omega
    simp [cpL, va_cpy, hj, n1, n2, q.1, q.2]
  · rw [← hl3]
    have n1 : a ≠ s + 1 := by omega
    have n2 : a ≠ s + 2 := by omega
    funext j
    simp [cpL, n1, n2]
def sumA (L : List (Int64 × Int64)) (i w : Int32) : Int64 := if 0 ≤ i.toInt ∧ i.toInt < L.length ∧ 0 ≤ w.toInt ∧ w.toInt ≤ 1 then (if w = 0 then (L.getD i.toNatClampNeg (0, 0)).1 else (L.getD i.toNatClampNeg (0, 0)).2) else -1
theorem c_sumOf {sh : List Sh} {h : Hp} {s B K : Nat} {L : List (Int64 × Int64)} (S : SumsR sh h s L B K) (i w : Int32) : Sp0 mX7_sumOf [.ref s, .int i, .int w] sh h (fun v h' => v = some (.long (sumA L i w)) ∧ h' = h) := by
  obtain ⟨a1, a2, a3, a4, a5, a6, a7, a8, a9, a10⟩ := S
  have hL : (nI L.length).toInt = L.length := nI_toInt (by omega)
  have h1 : (1 : Int32).toInt = 1 := by decide
  refine Sp0.of (by decide) (Nat.le_of_ble_eq_true rfl) ?_
  show E mX7_sumOf none _ 0 [some (.ref s), some (.int i), some (.int w)] [] sh h 0 0
  refine E_iload_n dX7_sumOf_0 rfl ?_
  refine E_if_lt 21 dX7_sumOf_1 (by decide) (fun c_1 => ?_) (fun c_1 => ?_)
  · refine E_ldc2 dX7_sumOf_21 kl_X7_51 ?_
    exact E_retl dX7_sumOf_24 rfl (Nat.le_of_ble_eq_true rfl) (Nat.le_of_ble_eq_true rfl) ⟨rfl, by rw [i_lt, i_0] at c_1; rw [sumA, if_neg (by omega)], rfl⟩
  · refine E_iload_n dX7_sumOf_4 rfl ?_
    refine E_aload_n dX7_sumOf_5 rfl ?_
    refine E_getI dX7_sumOf_6 fl_X7_18 (by first | assumption | rfl) rfl ?_
    refine E_icmp_ge 21 dX7_sumOf_9 (by decide) (fun c_9 => ?_) (fun c_9 => ?_)
    · refine E_ldc2 dX7_sumOf_21 kl_X7_51 ?_
      exact E_retl dX7_sumOf_24 rfl (Nat.le_of_ble_eq_true rfl) (Nat.le_of_ble_eq_true rfl) ⟨rfl, by rw [a6, i_le, hL] at c_9; rw [sumA, if_neg (by omega)], rfl⟩
    · refine E_iload_n dX7_sumOf_12 rfl ?_
      refine E_if_lt 21 dX7_sumOf_13 (by decide) (fun c_13 => ?_) (fun c_13 => ?_)
      · refine E_ldc2 dX7_sumOf_21 kl_X7_51 ?_
        exact E_retl dX7_sumOf_24 rfl (Nat.le_of_ble_eq_true rfl) (Nat.le_of_ble_eq_true rfl) ⟨rfl, by rw [i_lt, i_0] at c_13; rw [sumA, if_neg (by omega)], rfl⟩
      · refine E_iload_n dX7_sumOf_16 rfl ?_
        refine E_ic 1 dX7_sumOf_17 (by decide) ?_
        refine E_icmp_le 25 dX7_sumOf_18 (by decide) (fun c_18 => ?_) (fun c_18 => ?_)
        · rw [i_le, h1] at c_18
          rw [a6, i_le, hL] at c_9
          rw [i_lt, i_0] at c_13
          have c3 := cl_toInt c_1
          refine E_iload_n dX7_sumOf_25 rfl ?_
          refine E_if_ne 38 dX7_sumOf_26 (by decide) (fun c_26 => ?_) (fun c_26 => ?_)
          · refine E_aload_n dX7_sumOf_38 rfl ?_
            refine E_getR dX7_sumOf_39 fl_X7_15 (by first | assumption | rfl) (by assumption) rfl ?_
            refine E_iload_n dX7_sumOf_42 rfl ?_
            refine E_lald dX7_sumOf_43 (by first | assumption | rfl) (in_of c_1 (by omega)) ?_
            exact E_retl dX7_sumOf_44 rfl (Nat.le_of_ble_eq_true rfl) (Nat.le_of_ble_eq_true rfl) ⟨rfl, by rw [sumA, if_pos (by omega), if_neg c_26, (a10 _ (by omega)).2], rfl⟩
          · refine E_aload_n dX7_sumOf_29 rfl ?_
            refine E_getR dX7_sumOf_30 fl_X7_9 (by first | assumption | rfl) (by assumption) rfl ?_
            refine E_iload_n dX7_sumOf_33 rfl ?_
            refine E_lald dX7_sumOf_34 (by first | assumption | rfl) (in_of c_1 (by omega)) ?_
            refine E_goto 44 dX7_sumOf_35 (by decide) ?_
            exact E_retl dX7_sumOf_44 rfl (Nat.le_of_ble_eq_true rfl) (Nat.le_of_ble_eq_true rfl) ⟨rfl, by rw [sumA, if_pos (by omega), if_pos c_26, (a10 _ (by omega)).1], rfl⟩
        · refine E_ldc2 dX7_sumOf_21 kl_X7_51 ?_
          exact E_retl dX7_sumOf_24 rfl (Nat.le_of_ble_eq_true rfl) (Nat.le_of_ble_eq_true rfl) ⟨rfl, by rw [i_le, h1] at c_18; rw [sumA, if_neg (by omega)], rfl⟩
theorem any_no {L : List (Int64 × Int64)} {w : Int64} (h : ∀ j, j < L.length → ¬ (L.getD j (0, 0)).1 = w) : ¬ L.any (fun p => decide (p.1 = w)) = true := by
  intro q
  obtain ⟨p, h1, h2⟩ := List.any_eq_true.mp q
  obtain ⟨j, hj, rfl⟩ := List.getElem_of_mem h1
  have := h j hj
  simp [List.getD, hj] at this
  exact this (by simpa using h2)
theorem any_yes {L : List (Int64 × Int64)} {w : Int64} {i : Nat} (hi : i < L.length) (h : (L.getD i (0, 0)).1 = w) : L.any (fun p => decide (p.1 = w)) = true := by
  refine List.any_eq_true.mpr ⟨L[i], List.getElem_mem hi, ?_⟩
  simp [List.getD, hi] at h
  simpa using h
theorem c_hasWeak {sh : List Sh} {h : Hp} {s B K : Nat} {L : List (Int64 × Int64)} (S : SumsR sh h s L B K) (w : Int64) : Sp0 mX7_hasWeak [.ref s, .long w] sh h (fun v h' => v = some (.int (if L.any (fun p => decide (p.1 = w)) then 1 else 0)) ∧ h' = h) := by
  obtain ⟨a1, a2, a3, a4, a5, a6, a7, a8, a9, a10⟩ := S
  refine Sp0.of (by decide) (Nat.le_of_ble_eq_true rfl) ?_
  show E mX7_hasWeak none _ 0 [some (.ref s), some (.long w), none, none] [] sh h 0 0
  have loop : ∀ (n i : Nat), L.length - i ≤ n → i ≤ L.length → (∀ j, j < i → ¬ (L.getD j (0, 0)).1 = w) → E mX7_hasWeak none (fun v sh' h' => sh' = sh ∧ v = some (.int (if L.any (fun p => decide (p.1 = w)) then 1 else 0)) ∧ h' = h) 2 [some (.ref s), some (.long w), none, some (.int (nI i))] [] sh h 0 0 := by
    intro n
    induction n with
    | zero =>
      intro i h1 h2 h3
      have e : i = L.length := by omega
      subst e
      refine E_iload_n dX7_hasWeak_2 rfl ?_
      refine E_aload_n dX7_hasWeak_3 rfl ?_
      refine E_getI dX7_hasWeak_4 fl_X7_18 (by first | assumption | rfl) rfl ?_
      refine E_icmp_ge 29 dX7_hasWeak_7 (by decide) (fun c_7 => ?_) (fun c_7 => absurd (by rw [a6]; exact nI_le (by omega) (by omega)) c_7)
      refine E_ic 0 dX7_hasWeak_29 (by decide) ?_
      exact E_reti dX7_hasWeak_30 rfl rfl (Nat.le_of_ble_eq_true rfl) (Nat.le_of_ble_eq_true rfl) ⟨rfl, by rw [if_neg (any_no h3)], rfl⟩
    | succ n ih =>
      intro i h1 h2 h3
      by_cases e : i = L.length
      · subst e
        refine E_iload_n dX7_hasWeak_2 rfl ?_
        refine E_aload_n dX7_hasWeak_3 rfl ?_
        refine E_getI dX7_hasWeak_4 fl_X7_18 (by first | assumption | rfl) rfl ?_
        refine E_icmp_ge 29 dX7_hasWeak_7 (by decide) (fun c_7 => ?_) (fun c_7 => absurd (by rw [a6]; exact nI_le (by omega) (by omega)) c_7)
        refine E_ic 0 dX7_hasWeak_29 (by decide) ?_
        exact E_reti dX7_hasWeak_30 rfl rfl (Nat.le_of_ble_eq_true rfl) (Nat.le_of_ble_eq_true rfl) ⟨rfl, by rw [if_neg (any_no h3)], rfl⟩
      · refine E_iload_n dX7_hasWeak_2 rfl ?_
        refine E_aload_n dX7_hasWeak_3 rfl ?_
        refine E_getI dX7_hasWeak_4 fl_X7_18 (by first | assumption | rfl) rfl ?_
        refine E_icmp_ge 29 dX7_hasWeak_7 (by decide) (fun c_7 => absurd c_7 (by rw [a6]; exact nI_ge (by omega) (by omega))) (fun c_7 => ?_)
        refine E_aload_n dX7_hasWeak_10 rfl ?_
        refine E_getR dX7_hasWeak_11 fl_X7_9 (by first | assumption | rfl) (by assumption) rfl ?_
        refine E_iload_n dX7_hasWeak_14 rfl ?_
        refine E_lald dX7_hasWeak_15 (by first | assumption | rfl) (vp_in_nI (by omega) (by omega)) ?_
        rw [nI_clamp (by omega), (a10 i (by omega)).1]
        refine E_lload_n dX7_hasWeak_16 rfl ?_
        refine E_lcmp dX7_hasWeak_17 ?_
        refine E_if_ne 23 dX7_hasWeak_18 (by decide) (fun c_18 => ?_) (fun c_18 => ?_)
        · refine E_iinc dX7_hasWeak_23 rfl (by decide) ?_
          refine E_goto 2 dX7_hasWeak_26 (by decide) ?_
          rw [nI_inc]
          exact ih (i + 1) (by omega) (by omega) (fun j hj => by rcases Nat.lt_or_ge j i with q | q; exact h3 j q; rw [show j = i by omega]; exact fun q => c_18 ((lg_cmp_eq _ _).mpr q))
        · refine E_ic 1 dX7_hasWeak_21 (by decide) ?_
          exact E_reti dX7_hasWeak_22 rfl rfl (Nat.le_of_ble_eq_true rfl) (Nat.le_of_ble_eq_true rfl) ⟨rfl, by rw [if_pos (any_yes (by omega) ((lg_cmp_eq _ _).mp c_18))], rfl⟩
  refine E_ic 0 dX7_hasWeak_0 (by decide) ?_
  refine E_istore_n dX7_hasWeak_1 (by decide) ?_
  exact loop L.length 0 (by omega) (by omega) (by omega)
/-- the first block with both; -2: none -/
def findB (L : List (Int64 × Int64)) (w t : Int64) : Int32 := match L.findIdx? (fun p => decide (p.1 = w ∧ p.2 = t)) with
  | none => -2
  | some i => nI i
theorem find_no {L : List (Int64 × Int64)} {w t : Int64} (h : ∀ j, j < L.length → ¬ ((L.getD j (0, 0)).1 = w ∧ (L.getD j (0, 0)).2 = t)) : findB L w t = -2 := by
  unfold findB
  rw [List.findIdx?_eq_none_iff.mpr]
  intro p hp
  obtain ⟨j, hj, rfl⟩ := List.getElem_of_mem hp
  have := h j hj
  simp [List.getD, hj] at this
  simpa using this
theorem find_yes {L : List (Int64 × Int64)} {w t : Int64} {i : Nat} (hi : i < L.length) (h : ∀ j, j < i → ¬ ((L.getD j (0, 0)).1 = w ∧ (L.getD j (0, 0)).2 = t)) (h1 : (L.getD i (0, 0)).1 = w) (h2 : (L.getD i (0, 0)).2 = t) : findB L w t = nI i := by
  unfold findB
  rw [List.findIdx?_eq_some_iff_getElem.mpr ⟨hi, ?_, ?_⟩]
  · simp [List.getD, hi] at h1 h2
    simp [h1, h2]
  · intro j hj
    have hl : j < L.length := by omega
    have := h j hj
    simp [List.getD, hl] at this
    simpa using this
theorem c_find {sh : List Sh} {h : Hp} {s B K : Nat} {L : List (Int64 × Int64)} (S : SumsR sh h s L B K) (w t : Int64) : Sp0 mX7_find [.ref s, .long w, .long t] sh h (fun v h' => v = some (.int (findB L w t)) ∧ h' = h) := by
  obtain ⟨a1, a2, a3, a4, a5, a6, a7, a8, a9, a10⟩ := S
  refine Sp0.of (by decide) (Nat.le_of_ble_eq_true rfl) ?_
  show E mX7_find none _ 0 [some (.ref s), some (.long w), none, some (.long t), none, none] [] sh h 0 0
  have loop : ∀ (n i : Nat), L.length - i ≤ n → i ≤ L.length → (∀ j, j < i → ¬ ((L.getD j (0, 0)).1 = w ∧ (L.getD j (0, 0)).2 = t)) → E mX7_find none (fun v sh' h' => sh' = sh ∧ v = some (.int (findB L w t)) ∧ h' = h) 3 [some (.ref s), some (.long w), none, some (.long t), none, some (.int (nI i))] [] sh h 0 0 := by
    intro n
    induction n with
    | zero =>
      intro i h1 h2 h3
      have e : i = L.length := by omega
      subst e
      refine E_iload dX7_find_3 rfl ?_
      refine E_aload_n dX7_find_5 rfl ?_
      refine E_getI dX7_find_6 fl_X7_18 (by first | assumption | rfl) rfl ?_
      refine E_icmp_ge 45 dX7_find_9 (by decide) (fun c_9 => ?_) (fun c_9 => absurd (by rw [a6]; exact nI_le (by omega) (by omega)) c_9)
      refine E_bi (-2) dX7_find_45 (by decide) ?_
      exact E_reti dX7_find_47 rfl rfl (Nat.le_of_ble_eq_true rfl) (Nat.le_of_ble_eq_true rfl) ⟨rfl, by rw [find_no h3], rfl⟩
    | succ n ih =>
      intro i h1 h2 h3
      by_cases e : i = L.length
      · subst e
        refine E_iload dX7_find_3 rfl ?_
        refine E_aload_n dX7_find_5 rfl ?_
        refine E_getI dX7_find_6 fl_X7_18 (by first | assumption | rfl) rfl ?_
        refine E_icmp_ge 45 dX7_find_9 (by decide) (fun c_9 => ?_) (fun c_9 => absurd (by rw [a6]; exact nI_le (by omega) (by omega)) c_9)
        refine E_bi (-2) dX7_find_45 (by decide) ?_
        exact E_reti dX7_find_47 rfl rfl (Nat.le_of_ble_eq_true rfl) (Nat.le_of_ble_eq_true rfl) ⟨rfl, by rw [find_no h3], rfl⟩
      · refine E_iload dX7_find_3 rfl ?_
        refine E_aload_n dX7_find_5 rfl ?_
        refine E_getI dX7_find_6 fl_X7_18 (by first | assumption | rfl) rfl ?_
        refine E_icmp_ge 45 dX7_find_9 (by decide) (fun c_9 => absurd c_9 (by rw [a6]; exact nI_ge (by omega) (by omega))) (fun c_9 => ?_)
        refine E_aload_n dX7_find_12 rfl ?_
        refine E_getR dX7_find_13 fl_X7_9 (by first | assumption | rfl) (by assumption) rfl ?_
        refine E_iload dX7_find_16 rfl ?_
        refine E_lald dX7_find_18 (by first | assumption | rfl) (vp_in_nI (by omega) (by omega)) ?_
        rw [nI_clamp (by omega), (a10 i (by omega)).1]
        refine E_lload_n dX7_find_19 rfl ?_
        refine E_lcmp dX7_find_20 ?_
        refine E_if_ne 39 dX7_find_21 (by decide) (fun c_21 => ?_) (fun c_21 => ?_)
        · refine E_iinc dX7_find_39 rfl (by decide) ?_
          refine E_goto 3 dX7_find_42 (by decide) ?_
          rw [nI_inc]
          exact ih (i + 1) (by omega) (by omega) (fun j hj => by rcases Nat.lt_or_ge j i with q | q; exact h3 j q; rw [show j = i by omega]; exact fun q => c_21 ((lg_cmp_eq _ _).mpr q.1))
        · refine E_aload_n dX7_find_24 rfl ?_
          refine E_getR dX7_find_25 fl_X7_15 (by first | assumption | rfl) (by assumption) rfl ?_
          refine E_iload dX7_find_28 rfl ?_
          refine E_lald dX7_find_30 (by first | assumption | rfl) (vp_in_nI (by omega) (by omega)) ?_
          rw [nI_clamp (by omega), (a10 i (by omega)).2]
          refine E_lload_n dX7_find_31 rfl ?_
          refine E_lcmp dX7_find_32 ?_
          refine E_if_ne 39 dX7_find_33 (by decide) (fun c_33 => ?_) (fun c_33 => ?_)
          · refine E_iinc dX7_find_39 rfl (by decide) ?_
            refine E_goto 3 dX7_find_42 (by decide) ?_
            rw [nI_inc]
            exact ih (i + 1) (by omega) (by omega) (fun j hj => by rcases Nat.lt_or_ge j i with q | q; exact h3 j q; rw [show j = i by omega]; exact fun q => c_33 ((lg_cmp_eq _ _).mpr q.2))
          · refine E_iload dX7_find_36 rfl ?_
            exact E_reti dX7_find_38 rfl rfl (Nat.le_of_ble_eq_true rfl) (Nat.le_of_ble_eq_true rfl) ⟨rfl, by rw [find_yes (by omega) h3 ((lg_cmp_eq _ _).mp c_21) ((lg_cmp_eq _ _).mp c_33)], rfl⟩
  refine E_ic 0 dX7_find_0 (by decide) ?_
  refine E_istore dX7_find_1 (by decide) ?_
  exact loop L.length 0 (by omega) (by omega) (by omega)
theorem c_become {sh : List Sh} {h : Hp} {m : Nat} (hs : sh[m]? = some (.inr 1)) (k n : Int32) : Sp0 mX1_become [.ref m, .int k, .int n] sh h (fun v h' => v = none ∧ h' = sI (sI h m 2 k) m 3 n) := by
  refine Sp0.of (by decide) (Nat.le_of_ble_eq_true rfl) ?_
  show E mX1_become none _ 0 [some (.ref m), some (.int k), some (.int n)] [] sh h 0 0
  refine E_aload_n dX1_become_0 rfl ?_
  refine E_iload_n dX1_become_1 rfl ?_
  refine E_putI dX1_become_2 fl_X1_27 (by first | assumption | rfl) rfl ?_
  refine E_aload_n dX1_become_5 rfl ?_
  refine E_iload_n dX1_become_6 rfl ?_
  refine E_putI dX1_become_7 fl_X1_31 (by first | assumption | rfl) rfl ?_
  exact E_retv dX1_become_10 rfl (Nat.le_of_ble_eq_true rfl) (Nat.le_of_ble_eq_true rfl) ⟨rfl, rfl, rfl⟩
theorem c_isByTarget {sh : List Sh} {h : Hp} {m : Nat} (hs : sh[m]? = some (.inr 1)) : Sp0 mX1_isByTarget [.ref m] sh h (fun v h' => v = some (.int (if h.1 m 2 = 0 ∨ h.1 m 2 = 2 ∨ h.1 m 2 = 7 then 1 else 0)) ∧ h' = h) := by
  refine Sp0.of (by decide) (Nat.le_of_ble_eq_true rfl) ?_
  show E mX1_isByTarget none _ 0 [some (.ref m)] [] sh h 0 0
  refine E_aload_n dX1_isByTarget_0 rfl ?_
  refine E_getI dX1_isByTarget_1 fl_X1_27 (by first | assumption | rfl) rfl ?_
  refine E_if_eq 24 dX1_isByTarget_4 (by decide) (fun c_4 => ?_) (fun c_4 => ?_)
  · refine E_ic 1 dX1_isByTarget_24 (by decide) ?_
    refine E_goto 29 dX1_isByTarget_25 (by decide) ?_
    exact E_reti dX1_isByTarget_29 rfl rfl (Nat.le_of_ble_eq_true rfl) (Nat.le_of_ble_eq_true rfl) ⟨rfl, by rw [if_pos (Or.inl c_4)], rfl⟩
  · refine E_aload_n dX1_isByTarget_7 rfl ?_
    refine E_getI dX1_isByTarget_8 fl_X1_27 (by first | assumption | rfl) rfl ?_
    refine E_ic 2 dX1_isByTarget_11 (by decide) ?_
    refine E_icmp_eq 24 dX1_isByTarget_12 (by decide) (fun c_12 => ?_) (fun c_12 => ?_)
    · refine E_ic 1 dX1_isByTarget_24 (by decide) ?_
      refine E_goto 29 dX1_isByTarget_25 (by decide) ?_
      exact E_reti dX1_isByTarget_29 rfl rfl (Nat.le_of_ble_eq_true rfl) (Nat.le_of_ble_eq_true rfl) ⟨rfl, by rw [if_pos (Or.inr (Or.inl c_12))], rfl⟩
    · refine E_aload_n dX1_isByTarget_15 rfl ?_
      refine E_getI dX1_isByTarget_16 fl_X1_27 (by first | assumption | rfl) rfl ?_
      refine E_bi 7 dX1_isByTarget_19 (by decide) ?_
      refine E_icmp_ne 28 dX1_isByTarget_21 (by decide) (fun c_21 => ?_) (fun c_21 => ?_)
      · refine E_ic 0 dX1_isByTarget_28 (by decide) ?_
        exact E_reti dX1_isByTarget_29 rfl rfl (Nat.le_of_ble_eq_true rfl) (Nat.le_of_ble_eq_true rfl) ⟨rfl, by rw [if_neg (by rintro (q | q | q); exact c_4 q; exact c_12 q; exact c_21 q)], rfl⟩
      · refine E_ic 1 dX1_isByTarget_24 (by decide) ?_
        refine E_goto 29 dX1_isByTarget_25 (by decide) ?_
        exact E_reti dX1_isByTarget_29 rfl rfl (Nat.le_of_ble_eq_true rfl) (Nat.le_of_ble_eq_true rfl) ⟨rfl, by rw [if_pos (Or.inr (Or.inr c_21))], rfl⟩
theorem c_bytesBy {sh : List Sh} {h : Hp} {n : Nat} (hs : sh[n]? = some (.inr 0)) (e : Int32) : Sp0 mX0_bytesBy [.ref n, .int e] sh h (fun v h' => v = some (.long (if e = 0 then h.2.1 n 1 else h.2.1 n 2)) ∧ h' = h) := by
  refine Sp0.of (by decide) (Nat.le_of_ble_eq_true rfl) ?_
  show E mX0_bytesBy none _ 0 [some (.ref n), some (.int e)] [] sh h 0 0
  refine E_iload_n dX0_bytesBy_0 rfl ?_
  refine E_if_ne 11 dX0_bytesBy_1 (by decide) (fun c_1 => ?_) (fun c_1 => ?_)
  · refine E_aload_n dX0_bytesBy_11 rfl ?_
    refine E_getL dX0_bytesBy_12 fl_X0_24 (by first | assumption | rfl) rfl ?_
    exact E_retl dX0_bytesBy_15 rfl (Nat.le_of_ble_eq_true rfl) (Nat.le_of_ble_eq_true rfl) ⟨rfl, by rw [if_neg c_1], rfl⟩
  · refine E_aload_n dX0_bytesBy_4 rfl ?_
    refine E_getL dX0_bytesBy_5 fl_X0_21 (by first | assumption | rfl) rfl ?_
    refine E_goto 15 dX0_bytesBy_8 (by decide) ?_
    exact E_retl dX0_bytesBy_15 rfl (Nat.le_of_ble_eq_true rfl) (Nat.le_of_ble_eq_true rfl) ⟨rfl, by rw [if_pos c_1], rfl⟩
def ushr1 (x : Int64) : Int64 := (x.toUInt64 >>> ((1 : Int32).toInt64.toUInt64 &&& Int64.toUInt64 63)).toInt64
theorem c_carry {sh : List Sh} {h : Hp} {n : Nat} (hs : sh[n]? = some (.inr 0)) (e b : Int32) : Sp0 mX0_carry [.ref n, .int e, .int b] sh h (fun v h' => v = some (.int (if h.2.1 n 0 &&& 1 = 0 then 1 else 0)) ∧ h' = sL (if e = 0 then sL h n 1 (h.2.1 n 1 + b.toInt64) else sL h n 2 (h.2.1 n 2 + b.toInt64)) n 0 (ushr1 (h.2.1 n 0))) := by
  have z : ∀ g : Hp, g.2.1 n 0 = h.2.1 n 0 → E mX0_carry none (fun v sh' h' => sh' = sh ∧ v = some (.int (if h.2.1 n 0 &&& 1 = 0 then 1 else 0)) ∧ h' = sL g n 0 (ushr1 (h.2.1 n 0))) 29 [some (.ref n), some (.int e), some (.int b), none] [] sh g 0 0 := by
    intro g hg
    refine E_aload_n dX0_carry_29 rfl ?_
    refine E_getL dX0_carry_30 fl_X0_9 (by first | assumption | rfl) rfl ?_
    refine E_lc 1 dX0_carry_33 (by decide) ?_
    rw [hg]
    refine E_land dX0_carry_34 ?_
    refine E_lc 0 dX0_carry_35 (by decide) ?_
    refine E_lcmp dX0_carry_36 ?_
    refine E_if_ne 44 dX0_carry_37 (by decide) (fun c_37 => ?_) (fun c_37 => ?_)
    · refine E_ic 0 dX0_carry_44 (by decide) ?_
      refine E_istore_n dX0_carry_45 (by decide) ?_
      refine E_aload_n dX0_carry_46 rfl ?_
      refine E_dup rfl dX0_carry_47 ?_
      refine E_getL dX0_carry_48 fl_X0_9 (by first | assumption | rfl) rfl ?_
      refine E_ic 1 dX0_carry_51 (by decide) ?_
      rw [hg]
      refine E_lushr dX0_carry_52 ?_
      refine E_putL dX0_carry_53 fl_X0_9 (by first | assumption | rfl) rfl ?_
      refine E_iload_n dX0_carry_56 rfl ?_
      exact E_reti dX0_carry_57 rfl rfl (Nat.le_of_ble_eq_true rfl) (Nat.le_of_ble_eq_true rfl) ⟨rfl, by rw [if_neg (fun q => c_37 ((lg_cmp_eq _ _).mpr q))], rfl⟩
    · refine E_ic 1 dX0_carry_40 (by decide) ?_
      refine E_goto 45 dX0_carry_41 (by decide) ?_
      refine E_istore_n dX0_carry_45 (by decide) ?_
      refine E_aload_n dX0_carry_46 rfl ?_
      refine E_dup rfl dX0_carry_47 ?_
      refine E_getL dX0_carry_48 fl_X0_9 (by first | assumption | rfl) rfl ?_
      refine E_ic 1 dX0_carry_51 (by decide) ?_
      rw [hg]
      refine E_lushr dX0_carry_52 ?_
      refine E_putL dX0_carry_53 fl_X0_9 (by first | assumption | rfl) rfl ?_
      refine E_iload_n dX0_carry_56 rfl ?_
      exact E_reti dX0_carry_57 rfl rfl (Nat.le_of_ble_eq_true rfl) (Nat.le_of_ble_eq_true rfl) ⟨rfl, by rw [if_pos ((lg_cmp_eq _ _).mp c_37)], rfl⟩
  refine Sp0.of (by decide) (Nat.le_of_ble_eq_true rfl) ?_
  show E mX0_carry none _ 0 [some (.ref n), some (.int e), some (.int b), none] [] sh h 0 0
  refine E_iload_n dX0_carry_0 rfl ?_
  refine E_if_ne 18 dX0_carry_1 (by decide) (fun c_1 => ?_) (fun c_1 => ?_)
  · refine E_aload_n dX0_carry_18 rfl ?_
    refine E_dup rfl dX0_carry_19 ?_
    refine E_getL dX0_carry_20 fl_X0_24 (by first | assumption | rfl) rfl ?_
    refine E_iload_n dX0_carry_23 rfl ?_
    refine E_i2l dX0_carry_24 ?_
    refine E_ladd dX0_carry_25 ?_
    refine E_putL dX0_carry_26 fl_X0_24 (by first | assumption | rfl) rfl ?_
    rw [if_neg c_1]
    exact z _ (by simp [sL, u2])
  · refine E_aload_n dX0_carry_4 rfl ?_
    refine E_dup rfl dX0_carry_5 ?_
    refine E_getL dX0_carry_6 fl_X0_21 (by first | assumption | rfl) rfl ?_
    refine E_iload_n dX0_carry_9 rfl ?_
    refine E_i2l dX0_carry_10 ?_
    refine E_ladd dX0_carry_11 ?_
    refine E_putL dX0_carry_12 fl_X0_21 (by first | assumption | rfl) rfl ?_
    refine E_goto 29 dX0_carry_15 (by decide) ?_
    rw [if_pos c_1]
    exact z _ (by simp [sL, u2])
end
section
/-! the abstract state of the system, in banks of registers, and how the class's world shows it -/
def SH : List Sh := [.inr 8,
  .inr 6, .inl (.object RX3, 8), .inl (.boolean, 8), .inl (.long, 16), .inr 3, .inl (.int, 500), .inr 3, .inl (.int, 500), .inr 3, .inl (.int, 500), .inr 3, .inl (.int, 500), .inr 3, .inl (.int, 500), .inr 3, .inl (.int, 500), .inr 3, .inl (.int, 500), .inr 3, .inl (.int, 500),
  .inr 6, .inl (.object RX3, 8), .inl (.boolean, 8), .inl (.long, 16), .inr 3, .inl (.int, 500), .inr 3, .inl (.int, 500), .inr 3, .inl (.int, 500), .inr 3, .inl (.int, 500), .inr 3, .inl (.int, 500), .inr 3, .inl (.int, 500), .inr 3, .inl (.int, 500), .inr 3, .inl (.int, 500),
  .inr 0, .inr 4, .inr 1, .inr 3, .inl (.int, 16), .inr 7, .inl (.long, 500), .inl (.long, 500), .inr 5, .inr 7, .inl (.long, 500), .inl (.long, 500), .inr 2, .inl (.int, 16), .inl (.boolean, 8), .inl (.boolean, 8), .inr 3, .inl (.int, 500),
  .inr 9, .inl (.byte, 8000), .inl (.int, 16), .inl (.byte, 16), .inl (.long, 16), .inl (.int, 16), .inl (.long, 2), .inl (.int, 16), .inl (.boolean, 8), .inl (.boolean, 8), .inl (.byte, 500), .inl (.byte, 16), .inl (.long, 500), .inl (.long, 500), .inl (.long, 500), .inl (.long, 500), .inl (.int, 8)]
/-- ints, longs, lists of numbers, files by end, flags, sums -/
abbrev Ab : Type := (Nat → Int32) × (Nat → Int64) × (Nat → List Nat) × (Nat → FS) × (Nat → Nat → Bool) × (Nat → List (Int64 × Int64))
def aI (a : Ab) (k : Nat) (x : Int32) : Ab := (va_up a.1 k x, a.2)
def aL (a : Ab) (k : Nat) (x : Int64) : Ab := (a.1, va_up a.2.1 k x, a.2.2)
def aN (a : Ab) (k : Nat) (x : List Nat) : Ab := (a.1, a.2.1, va_up a.2.2.1 k x, a.2.2.2)
def aF (a : Ab) (k : Nat) (x : FS) : Ab := (a.1, a.2.1, a.2.2.1, va_up a.2.2.2.1 k x, a.2.2.2.2)
def aB (a : Ab) (k : Nat) (x : Nat → Bool) : Ab := (a.1, a.2.1, a.2.2.1, a.2.2.2.1, va_up a.2.2.2.2.1 k x, a.2.2.2.2.2)
def aS (a : Ab) (k : Nat) (x : List (Int64 × Int64)) : Ab := (a.1, a.2.1, a.2.2.1, a.2.2.2.1, a.2.2.2.2.1, va_up a.2.2.2.2.2 k x)
/-- where the class keeps int k -/
def loc (k : Nat) : Nat × Nat := match k with
  | 0 => (42, 6) | 1 => (42, 7) | 2 => (42, 8) | 3 => (42, 9) | 4 => (42, 10) | 5 => (42, 11) | 6 => (42, 12) | 7 => (42, 13) | 8 => (42, 14)
  | 9 => (43, 2) | 10 => (43, 3) | 11 => (43, 4)
  | 12 => (49, 2) | 13 => (49, 3) | 14 => (49, 4) | 15 => (49, 5)
  | 16 => (53, 6) | 17 => (53, 7) | 18 => (53, 8) | 19 => (53, 9) | 20 => (53, 10) | 21 => (53, 11) | 22 => (53, 12) | 23 => (53, 13) | 24 => (53, 14) | 25 => (53, 15) | _ => (53, 16)
def locL (k : Nat) : Nat × Nat := match k with
  | 0 => (41, 0) | 1 => (41, 1) | 2 => (41, 2) | _ => (43, 5)
theorem loc_inj : ∀ i, i < 27 → ∀ j, j < 27 → i ≠ j → loc i ≠ loc j := by decide
theorem loc_in : ∀ i, i < 27 → (loc i).1 = 42 ∨ (loc i).1 = 43 ∨ (loc i).1 = 49 ∨ ((loc i).1 = 53 ∧ (loc i).2 ≠ 5) := by decide
theorem locL_inj : ∀ i, i < 4 → ∀ j, j < 4 → i ≠ j → locL i ≠ locL j := by decide
theorem locL_in : ∀ i, i < 4 → (locL i).1 = 41 ∨ (locL i).1 = 43 := by decide
def RefC (r : Nat → Nat → Option Nat) (src : Int32) : Prop := r 0 0 = some 1 ∧ r 0 1 = some 21 ∧ r 0 2 = some 41 ∧ r 0 3 = some 42 ∧ r 42 0 = some 1 ∧ r 42 1 = some 21 ∧ r 42 2 = some 41 ∧ r 42 3 = some 49 ∧ r 42 4 = some 53 ∧ r 42 5 = some 43 ∧ r 43 0 = some 44 ∧ r 43 1 = some 46 ∧ r 49 0 = some 50 ∧ r 49 1 = some (if src = 0 then 1 else 21) ∧ r 53 0 = some 54 ∧ r 53 1 = some 55 ∧ r 53 2 = some 56 ∧ r 53 3 = some 57 ∧ r 53 4 = some (if src = 0 then 21 else 1)
def WaitR (h : Hp) (W : List Nat) : Prop := h.1 53 5 = nI W.length ∧ W.length ≤ 16 ∧ ∀ j, j < W.length → h.1 54 j = nI (W.getD j 0)
def FlagR (h : Hp) (x : Nat) (g : Nat → Bool) : Prop := ∀ f, f < 8 → h.1 x f = if g f then 1 else 0
def CRep (a : Ab) (h : Hp) : Prop :=
  (∀ k, k < 27 → h.1 (loc k).1 (loc k).2 = a.1 k) ∧ (∀ k, k < 4 → h.2.1 (locL k).1 (locL k).2 = a.2.1 k) ∧ RefC h.2.2 (a.1 1) ∧ WaitR h (a.2.2.1 0) ∧ FlagR h 55 (a.2.2.2.2.1 0) ∧ FlagR h 56 (a.2.2.2.2.1 1) ∧
  (RowL SH h 57 58 500 (a.2.2.1 1) ∧ ∀ x ∈ a.2.2.1 1, x < 256) ∧ (RowL SH h 44 45 16 (a.2.2.1 2) ∧ ∀ x ∈ a.2.2.1 2, x < 256) ∧ SideA SH h 1 (a.2.2.2.1 0) ∧ SideA SH h 21 (a.2.2.2.1 1) ∧
  (∃ B K, a.2.2.1 3 = [B, K] ∧ SumsR SH h 46 (a.2.2.2.2.2 0) B K) ∧ ∃ B K, a.2.2.1 4 = [B, K] ∧ SumsR SH h 50 (a.2.2.2.2.2 1) B K
/-- the class's calls leave the model's part alone -/
def CF (h h' : Hp) : Prop := ∀ x, 59 ≤ x → h'.1 x = h.1 x ∧ h'.2.1 x = h.2.1 x ∧ h'.2.2 x = h.2.2 x
theorem CF.rf {h : Hp} : CF h h := fun _ _ => ⟨rfl, rfl, rfl⟩
theorem CF.tr {h h1 h2 : Hp} (a : CF h h1) (b : CF h1 h2) : CF h h2 := fun x q => ⟨(b x q).1.trans (a x q).1, (b x q).2.1.trans (a x q).2.1, (b x q).2.2.trans (a x q).2.2⟩
theorem CF_sI {h h1 : Hp} {b k : Nat} {x : Int32} (F : CF h h1) (hb : b < 59) : CF h (sI h1 b k x) := by
  intro y q
  refine ⟨?_, (F y q).2⟩
  rw [← (F y q).1]
  funext j
  have : y ≠ b := by omega
  simp [sI, u2, this]
theorem CF_sL {h h1 : Hp} {b k : Nat} {x : Int64} (F : CF h h1) (hb : b < 59) : CF h (sL h1 b k x) := by
  intro y q
  refine ⟨(F y q).1, ?_, (F y q).2.2⟩
  rw [← (F y q).2.1]
  funext j
  have : y ≠ b := by omega
  simp [sL, u2, this]
theorem CF_fr {h h1 h2 : Hp} {lo hi : Nat} (F : CF h h1) (G : Fr lo hi h1 h2) (hb : hi ≤ 59) : CF h h2 := fun y q => ⟨(G.2 y (by omega)).1.trans (F y q).1, (G.2 y (by omega)).2.trans (F y q).2.1, by rw [G.1]; exact (F y q).2.2⟩
theorem CF_row {h h1 h2 : Hp} {r c : Nat} (F : CF h h1) (G : RowF h1 h2 r c) (hr : r < 59) (hc : c < 59) : CF h h2 := fun y q => ⟨(G.2 y (by omega) (by omega)).trans (F y q).1, by rw [G.1]; exact (F y q).2.1, by rw [G.1]; exact (F y q).2.2⟩
/-- an int changes -/
theorem CRep.setI {a : Ab} {h : Hp} (C : CRep a h) (k : Nat) (x : Int32) (hk : k < 27) (h1 : k ≠ 1) : CRep (aI a k x) (sI h (loc k).1 (loc k).2 x) := by
  obtain ⟨c1, c2, c3, c4, c5, c6, c7, c8, c9, c10, c11, c12⟩ := C
  have hin := loc_in k hk
  have ne : ∀ b, b ≠ 42 → b ≠ 43 → b ≠ 49 → b ≠ 53 → (sI h (loc k).1 (loc k).2 x).1 b = h.1 b := fun b q1 q2 q3 q4 => by
    have : b ≠ (loc k).1 := by omega
    funext j; simp [sI, u2, this]
  refine ⟨fun j hj => ?_, c2, ?_, ?_, ?_, ?_, ?_, ?_, ?_, ?_, ?_, ?_⟩
  · by_cases e : j = k
    · subst e; simp [sI, u2, aI, va_up]
    · have q := loc_inj j hj k hk e
      have q2 : ¬ ((loc j).1 = (loc k).1 ∧ (loc j).2 = (loc k).2) := fun z => q (Prod.ext z.1 z.2)
      simp only [sI, u2, if_neg q2, aI, va_up, if_neg e]
      exact c1 j hj
  · simp only [aI, va_up, if_neg (show (1 : Nat) ≠ k from fun q => h1 q.symm)]
    exact c3
  · refine ⟨?_, c4.2.1, fun j hj => ?_⟩
    · refine Eq.trans ?_ c4.1
      have : ¬ (53 = (loc k).1 ∧ 5 = (loc k).2) := by omega
      simp [sI, u2, this]
    · rw [ne 54 (by decide) (by decide) (by decide) (by decide)]
      exact c4.2.2 j hj
  · intro f hf; rw [ne 55 (by decide) (by decide) (by decide) (by decide)]; exact c5 f hf
  · intro f hf; rw [ne 56 (by decide) (by decide) (by decide) (by decide)]; exact c6 f hf
  · exact ⟨c7.1.keep (ne 57 (by decide) (by decide) (by decide) (by decide)) (ne 58 (by decide) (by decide) (by decide) (by decide)) rfl, c7.2⟩
  · exact ⟨c8.1.keep (ne 44 (by decide) (by decide) (by decide) (by decide)) (ne 45 (by decide) (by decide) (by decide) (by decide)) rfl, c8.2⟩
  · exact ⟨c9.1.off (fun b q1 q2 => ne b (by omega) (by omega) (by omega) (by omega)) (fun _ _ _ => rfl), c9.2⟩
  · exact ⟨c10.1.off (fun b q1 q2 => ne b (by omega) (by omega) (by omega) (by omega)) (fun _ _ _ => rfl), c10.2⟩
  · obtain ⟨B, K, e, S⟩ := c11
    exact ⟨B, K, e, S.off (ne 46 (by decide) (by decide) (by decide) (by decide)) (fun _ _ _ => rfl) rfl⟩
  · obtain ⟨B, K, e, S⟩ := c12
    exact ⟨B, K, e, S.off (ne 50 (by decide) (by decide) (by decide) (by decide)) (fun _ _ _ => rfl) rfl⟩
/-- a long changes -/
theorem CRep.setL {a : Ab} {h : Hp} (C : CRep a h) (k : Nat) (x : Int64) (hk : k < 4) : CRep (aL a k x) (sL h (locL k).1 (locL k).2 x) := by
  obtain ⟨c1, c2, c3, c4, c5, c6, c7, c8, c9, c10, c11, c12⟩ := C
  have hin := locL_in k hk
  have ne : ∀ b, b ≠ 41 → b ≠ 43 → (sL h (locL k).1 (locL k).2 x).2.1 b = h.2.1 b := fun b q1 q2 => by
    have : b ≠ (locL k).1 := by omega
    funext j; simp [sL, u2, this]
  refine ⟨c1, fun j hj => ?_, c3, c4, c5, c6, c7, c8, ⟨c9.1, fun n q1 q2 => ?_⟩, ⟨c10.1, fun n q1 q2 => ?_⟩, ?_, ?_⟩
  · by_cases e : j = k
    · subst e; simp [sL, u2, aL, va_up]
    · have q := locL_inj j hj k hk e
      have q2 : ¬ ((locL j).1 = (locL k).1 ∧ (locL j).2 = (locL k).2) := fun z => q (Prod.ext z.1 z.2)
      simp only [sL, u2, if_neg q2, aL, va_up, if_neg e]
      exact c2 j hj
  · rw [ne _ (by decide) (by decide)]; exact c9.2 n q1 q2
  · rw [ne _ (by decide) (by decide)]; exact c10.2 n q1 q2
  · obtain ⟨B, K, e, S⟩ := c11
    exact ⟨B, K, e, S.off rfl (fun b _ _ => ne b (by omega) (by omega)) rfl⟩
  · obtain ⟨B, K, e, S⟩ := c12
    exact ⟨B, K, e, S.off rfl (fun b _ _ => ne b (by omega) (by omega)) rfl⟩
/-- the files of an end change -/
def sid (e : Nat) : Nat := if e = 0 then 1 else 21
theorem CRep.setF {a : Ab} {h h' : Hp} (C : CRep a h) {e : Nat} (he : e < 2) {F : FS} (S : SideA SH h' (sid e) F) (G : SideF h h' (sid e)) : CRep (aF a e F) h' := by
  obtain ⟨c1, c2, c3, c4, c5, c6, c7, c8, c9, c10, c11, c12⟩ := C
  obtain ⟨G1, G2⟩ := G
  have hs : sid e = 1 ∨ sid e = 21 := by unfold sid; split <;> simp
  have k1 : ∀ b, 41 ≤ b → h'.1 b = h.1 b := fun b q => (G2 b (by omega)).1
  have k2 : ∀ b, 41 ≤ b → h'.2.1 b = h.2.1 b := fun b q => (G2 b (by omega)).2
  refine ⟨fun j hj => ?_, fun j hj => ?_, by rw [G1]; exact c3, ⟨by rw [k1 53 (by decide)]; exact c4.1, c4.2.1, by rw [k1 54 (by decide)]; exact c4.2.2⟩, ?_, ?_, ⟨c7.1.keep (k1 _ (by decide)) (k1 _ (by decide)) (by rw [G1]), c7.2⟩, ⟨c8.1.keep (k1 _ (by decide)) (k1 _ (by decide)) (by rw [G1]), c8.2⟩, ?_, ?_, ?_, ?_⟩
  · rw [k1 _ (by have := loc_in j hj; omega)]; exact c1 j hj
  · rw [k2 _ (by have := locL_in j hj; omega)]; exact c2 j hj
  · intro f hf; rw [k1 55 (by decide)]; exact c5 f hf
  · intro f hf; rw [k1 56 (by decide)]; exact c6 f hf
  · by_cases q : e = 0
    · subst q; simpa [aF, va_up, sid] using S
    · have e1 : e = 1 := by omega
      subst e1
      have z : SideA SH h' 1 (a.2.2.2.1 0) := ⟨c9.1.off (fun b q1 q2 => (G2 b (by simp [sid]; omega)).1) (fun b _ _ => by rw [G1]), fun n q1 q2 => by rw [(G2 _ (by simp [sid])).2]; exact c9.2 n q1 q2⟩
      simpa [aF, va_up] using z
  · by_cases q : e = 0
    · subst q
      have z : SideA SH h' 21 (a.2.2.2.1 1) := ⟨c10.1.off (fun b q1 q2 => (G2 b (by simp [sid]; omega)).1) (fun b _ _ => by rw [G1]), fun n q1 q2 => by rw [(G2 _ (by simp [sid])).2]; exact c10.2 n q1 q2⟩
      simpa [aF, va_up] using z
    · have e1 : e = 1 := by omega
      subst e1; simpa [aF, va_up, sid] using S
  · obtain ⟨B, K, e, S⟩ := c11
    exact ⟨B, K, e, S.off (k1 _ (by decide)) (fun b _ _ => k2 b (by omega)) (by rw [G1])⟩
  · obtain ⟨B, K, e, S⟩ := c12
    exact ⟨B, K, e, S.off (k1 _ (by decide)) (fun b _ _ => k2 b (by omega)) (by rw [G1])⟩
theorem CRep.built {a : Ab} {h h' : Hp} (C : CRep a h) {ys : List Nat} (R : RowL SH h' 57 58 500 ys) (G : RowF h h' 57 58) (hy : ∀ x ∈ ys, x < 256) : CRep (aN a 1 ys) h' := by
  obtain ⟨c1, c2, c3, c4, c5, c6, c7, c8, c9, c10, c11, c12⟩ := C
  obtain ⟨G1, G2⟩ := G
  have k2 : h'.2.1 = h.2.1 := by rw [G1]
  have k3 : h'.2.2 = h.2.2 := by rw [G1]
  refine ⟨fun j hj => by rw [G2 _ (by have := loc_in j hj; omega) (by have := loc_in j hj; omega)]; exact c1 j hj, by rw [k2]; exact c2, by rw [k3]; exact c3, ⟨by rw [G2 53 (by decide) (by decide)]; exact c4.1, c4.2.1, by rw [G2 54 (by decide) (by decide)]; exact c4.2.2⟩, ?_, ?_, ⟨R, hy⟩, ⟨c8.1.keep (G2 _ (by decide) (by decide)) (G2 _ (by decide) (by decide)) (by rw [k3]), c8.2⟩, ⟨c9.1.off (fun b q1 q2 => G2 b (by omega) (by omega)) (fun b _ _ => by rw [k3]), c9.2.keep k2⟩, ⟨c10.1.off (fun b q1 q2 => G2 b (by omega) (by omega)) (fun b _ _ => by rw [k3]), c10.2.keep k2⟩, ?_, ?_⟩
  · intro f hf; rw [G2 55 (by decide) (by decide)]; exact c5 f hf
  · intro f hf; rw [G2 56 (by decide) (by decide)]; exact c6 f hf
  · obtain ⟨B, K, e, S⟩ := c11
    exact ⟨B, K, e, S.off (G2 _ (by decide) (by decide)) (fun b _ _ => by rw [k2]) (by rw [k3])⟩
  · obtain ⟨B, K, e, S⟩ := c12
    exact ⟨B, K, e, S.off (G2 _ (by decide) (by decide)) (fun b _ _ => by rw [k2]) (by rw [k3])⟩
theorem CRep.bytes {a : Ab} {h h' : Hp} (C : CRep a h) {ys : List Nat} (R : RowL SH h' 44 45 16 ys) (G : RowF h h' 44 45) (hy : ∀ x ∈ ys, x < 256) : CRep (aN a 2 ys) h' := by
  obtain ⟨c1, c2, c3, c4, c5, c6, c7, c8, c9, c10, c11, c12⟩ := C
  obtain ⟨G1, G2⟩ := G
  have k2 : h'.2.1 = h.2.1 := by rw [G1]
  have k3 : h'.2.2 = h.2.2 := by rw [G1]
  refine ⟨fun j hj => by rw [G2 _ (by have := loc_in j hj; omega) (by have := loc_in j hj; omega)]; exact c1 j hj, by rw [k2]; exact c2, by rw [k3]; exact c3, ⟨by rw [G2 53 (by decide) (by decide)]; exact c4.1, c4.2.1, by rw [G2 54 (by decide) (by decide)]; exact c4.2.2⟩, ?_, ?_, ⟨c7.1.keep (G2 _ (by decide) (by decide)) (G2 _ (by decide) (by decide)) (by rw [k3]), c7.2⟩, ⟨R, hy⟩, ⟨c9.1.off (fun b q1 q2 => G2 b (by omega) (by omega)) (fun b _ _ => by rw [k3]), c9.2.keep k2⟩, ⟨c10.1.off (fun b q1 q2 => G2 b (by omega) (by omega)) (fun b _ _ => by rw [k3]), c10.2.keep k2⟩, ?_, ?_⟩
  · intro f hf; rw [G2 55 (by decide) (by decide)]; exact c5 f hf
  · intro f hf; rw [G2 56 (by decide) (by decide)]; exact c6 f hf
  · obtain ⟨B, K, e, S⟩ := c11
    exact ⟨B, K, e, S.off (G2 _ (by decide) (by decide)) (fun b _ _ => by rw [k2]) (by rw [k3])⟩
  · obtain ⟨B, K, e, S⟩ := c12
    exact ⟨B, K, e, S.off (G2 _ (by decide) (by decide)) (fun b _ _ => by rw [k2]) (by rw [k3])⟩
/-- sums are new: j = 0 the message's, 1 those that came -/
def ssid (j : Nat) : Nat := if j = 0 then 46 else 50
theorem CRep.sums {a : Ab} {h h' : Hp} (C : CRep a h) {j B K : Nat} (hj : j < 2) {L : List (Int64 × Int64)} (S : SumsR SH h' (ssid j) L B K) (G : Fr (ssid j) (ssid j + 3) h h') : CRep (aS (aN a (3 + j) [B, K]) j L) h' := by
  obtain ⟨c1, c2, c3, c4, c5, c6, c7, c8, c9, c10, c11, c12⟩ := C
  obtain ⟨G1, G2⟩ := G
  have hs : (j = 0 ∧ ssid j = 46) ∨ (j = 1 ∧ ssid j = 50) := by
    rcases (show j = 0 ∨ j = 1 by omega) with rfl | rfl
    · exact Or.inl ⟨rfl, rfl⟩
    · exact Or.inr ⟨rfl, rfl⟩
  have k1 : ∀ b, b < 46 ∨ b = 49 ∨ 53 ≤ b → h'.1 b = h.1 b := fun b q => (G2 b (by omega)).1
  have k2 : ∀ b, b < 46 ∨ b = 49 ∨ 53 ≤ b → h'.2.1 b = h.2.1 b := fun b q => (G2 b (by omega)).2
  refine ⟨fun i hi => by rw [k1 _ (by have := loc_in i hi; omega)]; exact c1 i hi, fun i hi => by rw [k2 _ (by have := locL_in i hi; omega)]; exact c2 i hi, by rw [G1]; exact c3, ?_, ?_, ?_, ?_, ?_, ⟨c9.1.off (fun b q1 q2 => k1 b (by omega)) (fun b _ _ => by rw [G1]), fun n q1 q2 => by rw [k2 _ (by decide)]; exact c9.2 n q1 q2⟩, ⟨c10.1.off (fun b q1 q2 => k1 b (by omega)) (fun b _ _ => by rw [G1]), fun n q1 q2 => by rw [k2 _ (by decide)]; exact c10.2 n q1 q2⟩, ?_, ?_⟩
  · have z : WaitR h' (a.2.2.1 0) := ⟨by rw [k1 53 (by decide)]; exact c4.1, c4.2.1, by rw [k1 54 (by decide)]; exact c4.2.2⟩
    have n1 : (0 : Nat) ≠ 3 + j := by omega
    simpa [aS, aN, va_up, n1] using z
  · intro f hf; rw [k1 55 (by decide)]; exact c5 f hf
  · intro f hf; rw [k1 56 (by decide)]; exact c6 f hf
  · have z : RowL SH h' 57 58 500 (a.2.2.1 1) := c7.1.keep (k1 _ (by decide)) (k1 _ (by decide)) (by rw [G1])
    have n1 : (1 : Nat) ≠ 3 + j := by omega
    simpa [aS, aN, va_up, n1] using ⟨z, c7.2⟩
  · have z : RowL SH h' 44 45 16 (a.2.2.1 2) := c8.1.keep (k1 _ (by decide)) (k1 _ (by decide)) (by rw [G1])
    have n1 : (2 : Nat) ≠ 3 + j := by omega
    simpa [aS, aN, va_up, n1] using ⟨z, c8.2⟩
  · rcases hs with ⟨rfl, q⟩ | ⟨rfl, q⟩
    · exact ⟨B, K, by simp [aS, aN, va_up], by simpa [aS, va_up, q] using S⟩
    · obtain ⟨B0, K0, e0, S0⟩ := c11
      rw [q] at G2
      exact ⟨B0, K0, by simpa [aS, aN, va_up] using e0, by simpa [aS, aN, va_up] using S0.off (G2 46 (by decide)).1 (fun b _ _ => (G2 b (by omega)).2) (by rw [G1])⟩
  · rcases hs with ⟨rfl, q⟩ | ⟨rfl, q⟩
    · obtain ⟨B0, K0, e0, S0⟩ := c12
      rw [q] at G2
      exact ⟨B0, K0, by simpa [aS, aN, va_up] using e0, by simpa [aS, aN, va_up] using S0.off (G2 50 (by decide)).1 (fun b _ _ => (G2 b (by omega)).2) (by rw [G1])⟩
    · exact ⟨B, K, by simp [aS, aN, va_up], by simpa [aS, va_up, q] using S⟩
/-- a flag changes -/
theorem CRep.flag {a : Ab} {h : Hp} (C : CRep a h) {j f : Nat} (hj : j < 2) (hf : f < 8) (b : Bool) : CRep (aB a j (va_up (a.2.2.2.2.1 j) f b)) (sI h (55 + j) f (if b then 1 else 0)) := by
  obtain ⟨c1, c2, c3, c4, c5, c6, c7, c8, c9, c10, c11, c12⟩ := C
  have ne : ∀ x, x ≠ 55 → x ≠ 56 → (sI h (55 + j) f (if b then 1 else 0)).1 x = h.1 x := fun x q1 q2 => by
    have : x ≠ 55 + j := by omega
    funext i; simp [sI, u2, this]
  refine ⟨fun i hi => by rw [ne _ (by have := loc_in i hi; omega) (by have := loc_in i hi; omega)]; exact c1 i hi, c2, c3, ⟨by rw [ne 53 (by decide) (by decide)]; exact c4.1, c4.2.1, by rw [ne 54 (by decide) (by decide)]; exact c4.2.2⟩, ?_, ?_, ⟨c7.1.keep (ne _ (by decide) (by decide)) (ne _ (by decide) (by decide)) rfl, c7.2⟩, ⟨c8.1.keep (ne _ (by decide) (by decide)) (ne _ (by decide) (by decide)) rfl, c8.2⟩, ⟨c9.1.off (fun b q1 q2 => ne b (by omega) (by omega)) (fun b _ _ => rfl), c9.2⟩, ⟨c10.1.off (fun b q1 q2 => ne b (by omega) (by omega)) (fun b _ _ => rfl), c10.2⟩, ?_, ?_⟩
  · intro g hg
    rcases (show j = 0 ∨ j = 1 by omega) with rfl | rfl
    · by_cases e : g = f
      · subst e; simp [sI, u2, aB, va_up]
      · have := c5 g hg
        simp [sI, u2, aB, va_up, e, this]
    · have := c5 g hg
      simp [sI, u2, aB, va_up, this]
  · intro g hg
    rcases (show j = 0 ∨ j = 1 by omega) with rfl | rfl
    · have := c6 g hg
      simp [sI, u2, aB, va_up, this]
    · by_cases e : g = f
      · subst e; simp [sI, u2, aB, va_up]
      · have := c6 g hg
        simp [sI, u2, aB, va_up, e, this]
  · obtain ⟨B, K, e, S⟩ := c11
    exact ⟨B, K, e, S.off (ne _ (by decide) (by decide)) (fun b _ _ => rfl) rfl⟩
  · obtain ⟨B, K, e, S⟩ := c12
    exact ⟨B, K, e, S.off (ne _ (by decide) (by decide)) (fun b _ _ => rfl) rfl⟩
/-- the waiting nodes change -/
theorem CRep.wait {a : Ab} {h h' : Hp} (C : CRep a h) {W : List Nat} (R : WaitR h' W) (h2 : h'.2 = h.2) (h1 : ∀ x, x ≠ 53 → x ≠ 54 → h'.1 x = h.1 x) (h3 : ∀ k, k ≠ 5 → h'.1 53 k = h.1 53 k) : CRep (aN a 0 W) h' := by
  obtain ⟨c1, c2, c3, c4, c5, c6, c7, c8, c9, c10, c11, c12⟩ := C
  have k2 : h'.2.1 = h.2.1 := by rw [h2]
  have k3 : h'.2.2 = h.2.2 := by rw [h2]
  refine ⟨fun i hi => ?_, by rw [k2]; exact c2, by rw [k3]; exact c3, R, ?_, ?_, ⟨c7.1.keep (h1 _ (by decide) (by decide)) (h1 _ (by decide) (by decide)) (by rw [k3]), c7.2⟩, ⟨c8.1.keep (h1 _ (by decide) (by decide)) (h1 _ (by decide) (by decide)) (by rw [k3]), c8.2⟩, ⟨c9.1.off (fun b q1 q2 => h1 b (by omega) (by omega)) (fun b _ _ => by rw [k3]), c9.2.keep k2⟩, ⟨c10.1.off (fun b q1 q2 => h1 b (by omega) (by omega)) (fun b _ _ => by rw [k3]), c10.2.keep k2⟩, ?_, ?_⟩
  · have q := loc_in i hi
    by_cases e : (loc i).1 = 53
    · have q3 := c1 i hi
      rw [e] at q3 ⊢
      rw [h3 _ (by omega)]; exact q3
    · rw [h1 _ e (by omega)]; exact c1 i hi
  · intro f hf; rw [h1 55 (by decide) (by decide)]; exact c5 f hf
  · intro f hf; rw [h1 56 (by decide) (by decide)]; exact c6 f hf
  · obtain ⟨B, K, e, S⟩ := c11
    exact ⟨B, K, e, S.off (h1 _ (by decide) (by decide)) (fun b _ _ => by rw [k2]) (by rw [k3])⟩
  · obtain ⟨B, K, e, S⟩ := c12
    exact ⟨B, K, e, S.off (h1 _ (by decide) (by decide)) (fun b _ _ => by rw [k2]) (by rw [k3])⟩
end
section
/-! RollingSync$Receiver over the abstract state -/
def tg (a : Ab) : Nat := if a.1 1 = 0 then 1 else 0
def sr (a : Ab) : Nat := if a.1 1 = 0 then 0 else 1
def tF (a : Ab) : FS := a.2.2.2.1 (tg a)
def sF (a : Ab) : FS := a.2.2.2.1 (sr a)
theorem CRep.side {a : Ab} {h : Hp} (C : CRep a h) (e : Nat) (he : e < 2) : SideA SH h (sid e) (a.2.2.2.1 e) := by
  rcases (show e = 0 ∨ e = 1 by omega) with rfl | rfl
  · exact C.2.2.2.2.2.2.2.2.1
  · exact C.2.2.2.2.2.2.2.2.2.1
theorem tg_lt (a : Ab) : tg a < 2 := by unfold tg; split <;> decide
theorem sr_lt (a : Ab) : sr a < 2 := by unfold sr; split <;> decide
theorem sid_tg (a : Ab) : (if a.1 1 = 0 then 21 else 1) = sid (tg a) := by unfold tg sid; split <;> rfl
theorem sid_sr (a : Ab) : (if a.1 1 = 0 then 1 else 21) = sid (sr a) := by unfold sr sid; split <;> rfl
theorem sid_in (e : Nat) : sid e = 1 ∨ sid e = 21 := by unfold sid; split <;> simp
theorem CRep.rT {a : Ab} {h : Hp} (C : CRep a h) : h.2.2 53 4 = some (sid (tg a)) := by
  obtain ⟨r00, r01, r02, r03, r420, r421, r422, r423, r424, r425, r430, r431, r490, r491, r530, r531, r532, r533, r534⟩ := id C.2.2.1
  rw [← sid_tg]; exact r534
theorem CRep.rS {a : Ab} {h : Hp} (C : CRep a h) : h.2.2 49 1 = some (sid (sr a)) := by
  obtain ⟨r00, r01, r02, r03, r420, r421, r422, r423, r424, r425, r430, r431, r490, r491, r530, r531, r532, r533, r534⟩ := id C.2.2.1
  rw [← sid_sr]; exact r491
def ltd (T : Nat → Bool) : Int32 := match (List.range 8).find? T with
  | none => -2
  | some f => nI f
theorem ltd_none {T : Nat → Bool} (h : ∀ j, j < 8 → T j = false) : ltd T = -2 := by
  unfold ltd
  rw [List.find?_eq_none.mpr (fun x hx => by simp [h x (List.mem_range.mp hx)])]
theorem ltd_some {T : Nat → Bool} {i : Nat} (hi : i < 8) (h : ∀ j, j < i → T j = false) (h1 : T i = true) : ltd T = nI i := by
  unfold ltd
  have : (List.range 8).find? T = some i := by
    rw [List.find?_range_eq_some]
    exact ⟨h1, List.mem_range.mpr hi, fun j hj => by simp [h j hj]⟩
  rw [this]
theorem c_leastToDo {a : Ab} {h : Hp} (C : CRep a h) : Sp0 mX2_leastToDo [.ref 53] SH h (fun v h' => v = some (.int (ltd (a.2.2.2.2.1 0))) ∧ h' = h) := by
  obtain ⟨r00, r01, r02, r03, r420, r421, r422, r423, r424, r425, r430, r431, r490, r491, r530, r531, r532, r533, r534⟩ := id C.2.2.1
  have c5 := C.2.2.2.2.1
  generalize a.2.2.2.2.1 0 = T at c5 ⊢
  refine Sp0.of (by decide) (Nat.le_of_ble_eq_true rfl) ?_
  show E mX2_leastToDo none _ 0 [some (.ref 53), none] [] SH h 0 0
  have loop : ∀ (n i : Nat), 8 - i ≤ n → i ≤ 8 → (∀ j, j < i → T j = false) → E mX2_leastToDo none (fun v sh' h' => sh' = SH ∧ v = some (.int (ltd T)) ∧ h' = h) 2 [some (.ref 53), some (.int (nI i))] [] SH h 0 0 := by
    intro n
    induction n with
    | zero =>
      intro i h1 h2 h3
      have e : i = 8 := by omega
      subst e
      refine E_iload_n dX2_leastToDo_2 rfl ?_
      refine E_bi 8 dX2_leastToDo_3 (by decide) ?_
      refine E_icmp_ge 25 dX2_leastToDo_5 (by decide) (fun c_5 => ?_) (fun c_5 => absurd (by decide) c_5)
      refine E_bi (-2) dX2_leastToDo_25 (by decide) ?_
      exact E_reti dX2_leastToDo_27 rfl rfl (Nat.le_of_ble_eq_true rfl) (Nat.le_of_ble_eq_true rfl) ⟨rfl, by rw [ltd_none h3], rfl⟩
    | succ n ih =>
      intro i h1 h2 h3
      by_cases e : i = 8
      · subst e
        refine E_iload_n dX2_leastToDo_2 rfl ?_
        refine E_bi 8 dX2_leastToDo_3 (by decide) ?_
        refine E_icmp_ge 25 dX2_leastToDo_5 (by decide) (fun c_5 => ?_) (fun c_5 => absurd (by decide) c_5)
        refine E_bi (-2) dX2_leastToDo_25 (by decide) ?_
        exact E_reti dX2_leastToDo_27 rfl rfl (Nat.le_of_ble_eq_true rfl) (Nat.le_of_ble_eq_true rfl) ⟨rfl, by rw [ltd_none h3], rfl⟩
      · cases hT : T i with
        | true =>
          refine E_iload_n dX2_leastToDo_2 rfl ?_
          refine E_bi 8 dX2_leastToDo_3 (by decide) ?_
          rw [show (8 : Int32) = nI 8 by decide]
          refine E_icmp_ge 25 dX2_leastToDo_5 (by decide) (fun c_5 => absurd c_5 (nI_ge (by omega) (by omega))) (fun c_5 => ?_)
          refine E_aload_n dX2_leastToDo_8 rfl ?_
          refine E_getR dX2_leastToDo_9 fl_X2_15 (by first | assumption | rfl) (by assumption) rfl ?_
          refine E_iload_n dX2_leastToDo_12 rfl ?_
          refine E_zald dX2_leastToDo_13 (by first | assumption | rfl) (vp_in_nI (by omega) (by omega)) ?_
          rw [nI_clamp (by omega), c5 i (by omega), hT]
          refine E_if_eq 19 dX2_leastToDo_14 (by decide) (fun c_14 => absurd c_14 (by simp)) (fun c_14 => ?_)
          refine E_iload_n dX2_leastToDo_17 rfl ?_
          exact E_reti dX2_leastToDo_18 rfl rfl (Nat.le_of_ble_eq_true rfl) (Nat.le_of_ble_eq_true rfl) ⟨rfl, by rw [ltd_some (by omega) h3 hT], rfl⟩
        | false =>
          refine E_iload_n dX2_leastToDo_2 rfl ?_
          refine E_bi 8 dX2_leastToDo_3 (by decide) ?_
          rw [show (8 : Int32) = nI 8 by decide]
          refine E_icmp_ge 25 dX2_leastToDo_5 (by decide) (fun c_5 => absurd c_5 (nI_ge (by omega) (by omega))) (fun c_5 => ?_)
          refine E_aload_n dX2_leastToDo_8 rfl ?_
          refine E_getR dX2_leastToDo_9 fl_X2_15 (by first | assumption | rfl) (by assumption) rfl ?_
          refine E_iload_n dX2_leastToDo_12 rfl ?_
          refine E_zald dX2_leastToDo_13 (by first | assumption | rfl) (vp_in_nI (by omega) (by omega)) ?_
          rw [nI_clamp (by omega), c5 i (by omega), hT]
          refine E_if_eq 19 dX2_leastToDo_14 (by decide) (fun c_14 => ?_) (fun c_14 => absurd (by simp) c_14)
          refine E_iinc dX2_leastToDo_19 rfl (by decide) ?_
          refine E_goto 2 dX2_leastToDo_22 (by decide) ?_
          rw [nI_inc]
          exact ih (i + 1) (by omega) (by omega) (fun j hj => by rcases Nat.lt_or_ge j i with q | q; exact h3 j q; rw [show j = i by omega]; exact hT)
  refine E_ic 0 dX2_leastToDo_0 (by decide) ?_
  refine E_istore_n dX2_leastToDo_1 (by decide) ?_
  exact loop 8 0 (by omega) (by omega) (by omega)
def tcount (T : Nat → Bool) : Nat → Nat
  | 0 => 0
  | i + 1 => tcount T i + (if T i then 1 else 0)
theorem tcount_le (T : Nat → Bool) : ∀ i, tcount T i ≤ i
  | 0 => by simp [tcount]
  | i + 1 => by have := tcount_le T i; simp [tcount]; split <;> omega
theorem c_toDoCount {a : Ab} {h : Hp} (C : CRep a h) : Sp0 mX2_toDoCount [.ref 53] SH h (fun v h' => v = some (.int (nI (tcount (a.2.2.2.2.1 0) 8))) ∧ h' = h) := by
  obtain ⟨r00, r01, r02, r03, r420, r421, r422, r423, r424, r425, r430, r431, r490, r491, r530, r531, r532, r533, r534⟩ := id C.2.2.1
  have c5 := C.2.2.2.2.1
  generalize a.2.2.2.2.1 0 = T at c5 ⊢
  refine Sp0.of (by decide) (Nat.le_of_ble_eq_true rfl) ?_
  show E mX2_toDoCount none _ 0 [some (.ref 53), none, none] [] SH h 0 0
  have loop : ∀ (n i : Nat), 8 - i ≤ n → i ≤ 8 → E mX2_toDoCount none (fun v sh' h' => sh' = SH ∧ v = some (.int (nI (tcount T 8))) ∧ h' = h) 4 [some (.ref 53), some (.int (nI (tcount T i))), some (.int (nI i))] [] SH h 0 0 := by
    intro n
    induction n with
    | zero =>
      intro i h1 h2
      have e : i = 8 := by omega
      subst e
      refine E_iload_n dX2_toDoCount_4 rfl ?_
      refine E_bi 8 dX2_toDoCount_5 (by decide) ?_
      refine E_icmp_ge 33 dX2_toDoCount_7 (by decide) (fun c_7 => ?_) (fun c_7 => absurd (by decide) c_7)
      refine E_iload_n dX2_toDoCount_33 rfl ?_
      exact E_reti dX2_toDoCount_34 rfl rfl (Nat.le_of_ble_eq_true rfl) (Nat.le_of_ble_eq_true rfl) ⟨rfl, rfl, rfl⟩
    | succ n ih =>
      intro i h1 h2
      by_cases e : i = 8
      · subst e
        refine E_iload_n dX2_toDoCount_4 rfl ?_
        refine E_bi 8 dX2_toDoCount_5 (by decide) ?_
        refine E_icmp_ge 33 dX2_toDoCount_7 (by decide) (fun c_7 => ?_) (fun c_7 => absurd (by decide) c_7)
        refine E_iload_n dX2_toDoCount_33 rfl ?_
        exact E_reti dX2_toDoCount_34 rfl rfl (Nat.le_of_ble_eq_true rfl) (Nat.le_of_ble_eq_true rfl) ⟨rfl, rfl, rfl⟩
      · have hi := ih (i + 1) (by omega) (by omega)
        cases hT : T i with
        | true =>
          rw [show tcount T (i + 1) = tcount T i + 1 by simp [tcount, hT]] at hi
          refine E_iload_n dX2_toDoCount_4 rfl ?_
          refine E_bi 8 dX2_toDoCount_5 (by decide) ?_
          rw [show (8 : Int32) = nI 8 by decide]
          refine E_icmp_ge 33 dX2_toDoCount_7 (by decide) (fun c_7 => absurd c_7 (nI_ge (by omega) (by omega))) (fun c_7 => ?_)
          refine E_iload_n dX2_toDoCount_10 rfl ?_
          refine E_aload_n dX2_toDoCount_11 rfl ?_
          refine E_getR dX2_toDoCount_12 fl_X2_15 (by first | assumption | rfl) (by assumption) rfl ?_
          refine E_iload_n dX2_toDoCount_15 rfl ?_
          refine E_zald dX2_toDoCount_16 (by first | assumption | rfl) (vp_in_nI (by omega) (by omega)) ?_
          rw [nI_clamp (by omega), c5 i (by omega), hT]
          refine E_if_eq 24 dX2_toDoCount_17 (by decide) (fun c_17 => absurd c_17 (by simp)) (fun c_17 => ?_)
          refine E_ic 1 dX2_toDoCount_20 (by decide) ?_
          refine E_goto 25 dX2_toDoCount_21 (by decide) ?_
          refine E_iadd dX2_toDoCount_25 ?_
          refine E_istore_n dX2_toDoCount_26 (by decide) ?_
          refine E_iinc dX2_toDoCount_27 rfl (by decide) ?_
          refine E_goto 4 dX2_toDoCount_30 (by decide) ?_
          rw [nI_inc, nI_1]
          exact hi
        | false =>
          rw [show tcount T (i + 1) = tcount T i + 0 by simp [tcount, hT]] at hi
          refine E_iload_n dX2_toDoCount_4 rfl ?_
          refine E_bi 8 dX2_toDoCount_5 (by decide) ?_
          rw [show (8 : Int32) = nI 8 by decide]
          refine E_icmp_ge 33 dX2_toDoCount_7 (by decide) (fun c_7 => absurd c_7 (nI_ge (by omega) (by omega))) (fun c_7 => ?_)
          refine E_iload_n dX2_toDoCount_10 rfl ?_
          refine E_aload_n dX2_toDoCount_11 rfl ?_
          refine E_getR dX2_toDoCount_12 fl_X2_15 (by first | assumption | rfl) (by assumption) rfl ?_
          refine E_iload_n dX2_toDoCount_15 rfl ?_
          refine E_zald dX2_toDoCount_16 (by first | assumption | rfl) (vp_in_nI (by omega) (by omega)) ?_
          rw [nI_clamp (by omega), c5 i (by omega), hT]
          refine E_if_eq 24 dX2_toDoCount_17 (by decide) (fun c_17 => ?_) (fun c_17 => absurd (by simp) c_17)
          refine E_ic 0 dX2_toDoCount_24 (by decide) ?_
          refine E_iadd dX2_toDoCount_25 ?_
          refine E_istore_n dX2_toDoCount_26 (by decide) ?_
          refine E_iinc dX2_toDoCount_27 rfl (by decide) ?_
          refine E_goto 4 dX2_toDoCount_30 (by decide) ?_
          rw [nI_inc, show (0 : Int32) = nI 0 by decide, nI_add]
          exact hi
  refine E_ic 0 dX2_toDoCount_0 (by decide) ?_
  refine E_istore_n dX2_toDoCount_1 (by decide) ?_
  refine E_ic 0 dX2_toDoCount_2 (by decide) ?_
  refine E_istore_n dX2_toDoCount_3 (by decide) ?_
  exact loop 8 0 (by omega) (by omega)
def wants (a : Ab) : Prop := 0 < (a.2.2.1 0).length ∨ ¬ ltd (a.2.2.2.2.1 0) = -2
theorem c_wantsMore {a : Ab} {h : Hp} (C : CRep a h) : Sp0 mX2_wantsMore [.ref 53] SH h (fun v h' => (v = some (.int 1) ∧ wants a ∨ v = some (.int 0) ∧ ¬ wants a) ∧ h' = h) := by
  have hW := C.2.2.2.1
  refine Sp0.of (by decide) (Nat.le_of_ble_eq_true rfl) ?_
  show E mX2_wantsMore none _ 0 [some (.ref 53)] [] SH h 0 0
  refine E_aload_n dX2_wantsMore_0 rfl ?_
  refine E_getI dX2_wantsMore_1 fl_X2_48 (by first | assumption | rfl) rfl ?_
  rw [hW.1]
  have b := hW.2.1
  refine E_if_gt 16 dX2_wantsMore_4 (by decide) (fun c_4 => ?_) (fun c_4 => ?_)
  · refine E_ic 1 dX2_wantsMore_16 (by decide) ?_
    refine E_goto 21 dX2_wantsMore_17 (by decide) ?_
    exact E_reti dX2_wantsMore_21 rfl rfl (Nat.le_of_ble_eq_true rfl) (Nat.le_of_ble_eq_true rfl) ⟨rfl, Or.inl ⟨rfl, Or.inl (Nat.pos_of_ne_zero fun q => by rw [q] at c_4; exact absurd c_4 (by decide))⟩, rfl⟩
  · refine E_aload_n dX2_wantsMore_7 rfl ?_
    refine cV0 (N := mX2_leastToDo) dX2_wantsMore_8 cn_X2_leastToDo lk_X2_72 ⟨Nat.le_of_ble_eq_true rfl, Nat.le_of_ble_eq_true rfl⟩ (by first | assumption | rfl) rfl (Nat.le_of_ble_eq_true rfl) ⟨rfl, rfl⟩ (c_leastToDo C) (fun v2 h2 ⟨hv2, hh2⟩ => ?_)
    rw [hv2, hh2]
    refine E_bi (-2) dX2_wantsMore_11 (by decide) ?_
    refine E_icmp_eq 20 dX2_wantsMore_13 (by decide) (fun c_13 => ?_) (fun c_13 => ?_)
    · refine E_ic 0 dX2_wantsMore_20 (by decide) ?_
      exact E_reti dX2_wantsMore_21 rfl rfl (Nat.le_of_ble_eq_true rfl) (Nat.le_of_ble_eq_true rfl) ⟨rfl, Or.inr ⟨rfl, fun q => q.elim (fun q => c_4 (by rw [show (0 : Int32) = nI 0 by decide]; exact nI_lt q (by omega))) (fun q => q c_13)⟩, rfl⟩
    · refine E_ic 1 dX2_wantsMore_16 (by decide) ?_
      refine E_goto 21 dX2_wantsMore_17 (by decide) ?_
      exact E_reti dX2_wantsMore_21 rfl rfl (Nat.le_of_ble_eq_true rfl) (Nat.le_of_ble_eq_true rfl) ⟨rfl, Or.inl ⟨rfl, Or.inr c_13⟩, rfl⟩
theorem c_putToWait {a : Ab} {h : Hp} (C : CRep a h) {x : Nat} (hw : (a.2.2.1 0).length < 16) : Sp0 mX2_putToWait [.ref 53, .int (nI x)] SH h (fun v h' => v = none ∧ CRep (aN a 0 (a.2.2.1 0 ++ [x])) h' ∧ CF h h') := by
  obtain ⟨r00, r01, r02, r03, r420, r421, r422, r423, r424, r425, r430, r431, r490, r491, r530, r531, r532, r533, r534⟩ := id C.2.2.1
  have hW := C.2.2.2.1
  have C0 := C
  generalize hWe : a.2.2.1 0 = W at hW hw ⊢
  refine Sp0.of (by decide) (Nat.le_of_ble_eq_true rfl) ?_
  show E mX2_putToWait none _ 0 [some (.ref 53), some (.int (nI x))] [] SH h 0 0
  refine E_aload_n dX2_putToWait_0 rfl ?_
  refine E_getI dX2_putToWait_1 fl_X2_48 (by first | assumption | rfl) rfl ?_
  rw [hW.1]
  refine E_if_lt 36 dX2_putToWait_4 (by decide) (fun c_4 => absurd c_4 (nI_pos (by omega))) (fun c_4 => ?_)
  refine E_aload_n dX2_putToWait_7 rfl ?_
  refine E_getI dX2_putToWait_8 fl_X2_48 (by first | assumption | rfl) rfl ?_
  refine E_bi 16 dX2_putToWait_11 (by decide) ?_
  rw [hW.1, show (16 : Int32) = nI 16 by decide]
  refine E_icmp_ge 36 dX2_putToWait_13 (by decide) (fun c_13 => absurd c_13 (nI_ge (by omega) (by omega))) (fun c_13 => ?_)
  refine E_aload_n dX2_putToWait_16 rfl ?_
  refine E_getR dX2_putToWait_17 fl_X2_9 (by first | assumption | rfl) (by assumption) rfl ?_
  refine E_aload_n dX2_putToWait_20 rfl ?_
  refine E_getI dX2_putToWait_21 fl_X2_48 (by first | assumption | rfl) rfl ?_
  refine E_iload_n dX2_putToWait_24 rfl ?_
  rw [hW.1]
  refine E_iast dX2_putToWait_25 (by first | assumption | rfl) (vp_in_nI (by omega) (by omega)) ?_
  rw [nI_clamp (by omega)]
  refine E_aload_n dX2_putToWait_26 rfl ?_
  refine E_dup rfl dX2_putToWait_27 ?_
  refine E_getI dX2_putToWait_28 fl_X2_48 (by first | assumption | rfl) rfl ?_
  refine E_ic 1 dX2_putToWait_31 (by decide) ?_
  refine E_iadd dX2_putToWait_32 ?_
  refine E_putI dX2_putToWait_33 fl_X2_48 (by first | assumption | rfl) rfl ?_
  rw [show (sI h 54 W.length (nI x)).1 53 5 = nI W.length by simp [sI, u2, hW.1], nI_1]
  refine E_retv dX2_putToWait_36 rfl (Nat.le_of_ble_eq_true rfl) (Nat.le_of_ble_eq_true rfl) ?_
  refine ⟨rfl, rfl, C0.wait ⟨by simp [sI, u2], by simp; omega, fun j hj => ?_⟩ rfl (fun y h1 h2 => by funext j; simp [sI, u2, h1, h2]) (fun k hk => by simp [sI, u2, hk]), CF_sI (CF_sI CF.rf (by decide)) (by decide)⟩
  simp at hj
  by_cases e : j = W.length
  · subst e; simp [sI, u2, List.getD]
  · have h2 : j < W.length := by omega
    have h1 := hW.2.2 j h2
    simp [sI, u2, e, List.getD, List.getElem?_append_left h2] at h1 ⊢
    exact h1
theorem c_forgetBuilt {a : Ab} {h : Hp} (C : CRep a h) : Sp0 mX2_forgetBuilt [.ref 53] SH h (fun v h' => v = none ∧ CRep (aN a 1 []) h' ∧ CF h h') := by
  obtain ⟨r00, r01, r02, r03, r420, r421, r422, r423, r424, r425, r430, r431, r490, r491, r530, r531, r532, r533, r534⟩ := id C.2.2.1
  have c7 := C.2.2.2.2.2.2.1
  refine Sp0.of (by decide) (Nat.le_of_ble_eq_true rfl) ?_
  show E mX2_forgetBuilt none _ 0 [some (.ref 53)] [] SH h 0 0
  refine E_aload_n dX2_forgetBuilt_0 rfl ?_
  refine E_getR dX2_forgetBuilt_1 fl_X2_27 (by first | assumption | rfl) (by assumption) rfl ?_
  refine E_ic 0 dX2_forgetBuilt_4 (by decide) ?_
  rw [show (0 : Int32) = nI 0 by decide]
  refine cV1 (N := mX3_keep) dX2_forgetBuilt_5 cn_X3_keep lk_X2_150 ⟨Nat.le_of_ble_eq_true rfl, Nat.le_of_ble_eq_true rfl⟩ (by first | assumption | rfl) rfl (Nat.le_of_ble_eq_true rfl) ⟨rfl, rfl⟩ (c_Row_keep c7.1 (by omega)) (fun v2 h2 ⟨hv2, R2, F2⟩ => ?_)
  rw [hv2]
  exact E_retv dX2_forgetBuilt_8 rfl (Nat.le_of_ble_eq_true rfl) (Nat.le_of_ble_eq_true rfl) ⟨rfl, rfl, C.built (by simpa using R2) F2 (fun x hx => by cases hx), CF_row CF.rf F2 (by decide) (by decide)⟩
theorem c_settle {a : Ab} {h : Hp} (C : CRep a h) {f : Nat} (hf : f < 8) (hF : a.1 19 = nI f) : Sp0 mX2_settle [.ref 53] SH h (fun v h' => v = none ∧ CRep (aB a 0 (va_up (a.2.2.2.2.1 0) f false)) h' ∧ CF h h') := by
  obtain ⟨r00, r01, r02, r03, r420, r421, r422, r423, r424, r425, r430, r431, r490, r491, r530, r531, r532, r533, r534⟩ := id C.2.2.1
  have e19 : h.1 53 9 = a.1 19 := C.1 19 (by decide)
  rw [hF] at e19
  refine Sp0.of (by decide) (Nat.le_of_ble_eq_true rfl) ?_
  show E mX2_settle none _ 0 [some (.ref 53)] [] SH h 0 0
  refine E_aload_n dX2_settle_0 rfl ?_
  refine E_getI dX2_settle_1 fl_X2_31 (by first | assumption | rfl) rfl ?_
  rw [e19]
  refine cS1 (N := mX8_isFile) dX2_settle_4 cn_X8_isFile lk_X2_120 ⟨Nat.le_of_ble_eq_true rfl, Nat.le_of_ble_eq_true rfl⟩ (Nat.le_of_ble_eq_true rfl) ⟨rfl, rfl⟩ (c_isFile _) (fun v2 h2 ⟨hv2, hh2⟩ => ?_)
  rw [hv2, hh2]
  rw [if_pos (show 0 ≤ (nI f).toInt ∧ (nI f).toInt < 8 from isF_nI hf)]
  refine E_if_eq 20 dX2_settle_7 (by decide) (fun c_7 => absurd c_7 (by decide)) (fun c_7 => ?_)
  refine E_aload_n dX2_settle_10 rfl ?_
  refine E_getR dX2_settle_11 fl_X2_15 (by first | assumption | rfl) (by assumption) rfl ?_
  refine E_aload_n dX2_settle_14 rfl ?_
  refine E_getI dX2_settle_15 fl_X2_31 (by first | assumption | rfl) rfl ?_
  rw [e19]
  refine E_ic 0 dX2_settle_18 (by decide) ?_
  refine E_zast dX2_settle_19 (by first | assumption | rfl) (vp_in_nI hf (by omega)) ?_
  rw [nI_clamp (by omega)]
  exact E_retv dX2_settle_20 rfl (Nat.le_of_ble_eq_true rfl) (Nat.le_of_ble_eq_true rfl) ⟨rfl, rfl, C.flag (j := 0) (by decide) hf false, CF_sI CF.rf (by decide)⟩
end
section
/-! Receiver: what it does with a MESSAGE -/
theorem aN_aN (a : Ab) (k : Nat) (x y : List Nat) : aN (aN a k x) k y = aN a k y := by
  simp only [aN]
  congr 3
  funext j
  simp [va_up]
  split <;> rfl
theorem aN_at (a : Ab) (k : Nat) (x : List Nat) : (aN a k x).2.2.1 k = x := by simp [aN, va_up]
theorem aF_aF (a : Ab) (k : Nat) (x y : FS) : aF (aF a k x) k y = aF a k y := by
  simp only [aF]
  congr 4
  funext j
  simp [va_up]
  split <;> rfl
theorem aF_at (a : Ab) (k : Nat) (x : FS) : (aF a k x).2.2.2.1 k = x := by simp [aF, va_up]
theorem aF_self (a : Ab) (k : Nat) : aF a k (a.2.2.2.1 k) = a := by
  simp only [aF]
  congr 4
  funext j
  simp [va_up]
  intro e
  rw [e]
def takeNodeA (a : Ab) (x : Nat) (d : Int64) : Ab := if nodeF (tF a) x = d then a else if x < 8 then aN a 0 (a.2.2.1 0 ++ [2 * x + 1, 2 * x]) else aB a 0 (va_up (a.2.2.2.2.1 0) (x - 8) true)
theorem c_takeNode {a : Ab} {h : Hp} (C : CRep a h) {x : Nat} (d : Int64) (h1 : 1 ≤ x) (h2 : x < 16) (hw : (a.2.2.1 0).length + 2 ≤ 16) : Sp0 mX2_takeNode [.ref 53, .int (nI x), .long d] SH h (fun v h' => v = none ∧ CRep (takeNodeA a x d) h' ∧ CF h h') := by
  obtain ⟨r00, r01, r02, r03, r420, r421, r422, r423, r424, r425, r430, r431, r490, r491, r530, r531, r532, r533, r534⟩ := id C.2.2.1
  have rT := C.rT
  have S := C.side (tg a) (tg_lt a)
  have hsid := sid_in (tg a)
  have hX : (nI x).toInt = x := nI_toInt (by omega)
  refine Sp0.of (by decide) (Nat.le_of_ble_eq_true rfl) ?_
  show E mX2_takeNode none _ 0 [some (.ref 53), some (.int (nI x)), some (.long d), none] [] SH h 0 0
  refine E_aload_n dX2_takeNode_0 rfl ?_
  refine E_getR dX2_takeNode_1 fl_X2_35 (by first | assumption | rfl) (by assumption) rfl ?_
  refine E_iload_n dX2_takeNode_4 rfl ?_
  refine cV1 (N := mX6_digestAt) dX2_takeNode_5 cn_X6_digestAt lk_X2_110 ⟨Nat.le_of_ble_eq_true rfl, Nat.le_of_ble_eq_true rfl⟩ S.1.1.1 rfl (Nat.le_of_ble_eq_true rfl) ⟨rfl, rfl⟩ (c_digestAt S.1.1 S.2 _) (fun v2 h2 ⟨hv2, hh2⟩ => ?_)
  rw [hv2, hh2, if_pos (by rw [hX]; omega), nI_clamp (by omega)]
  refine E_lload_n dX2_takeNode_8 rfl ?_
  refine E_lcmp dX2_takeNode_9 ?_
  refine E_if_ne 14 dX2_takeNode_10 (by decide) (fun c_10 => ?_) (fun c_10 => ?_)
  · have hne : ¬ nodeF (tF a) x = d := fun q => c_10 ((lg_cmp_eq _ _).mpr q)
    refine E_iload_n dX2_takeNode_14 rfl ?_
    refine E_bi 8 dX2_takeNode_15 (by decide) ?_
    rw [show (8 : Int32) = nI 8 by decide]
    refine E_icmp_ge 39 dX2_takeNode_17 (by decide) (fun c_17 => ?_) (fun c_17 => ?_)
    · refine E_iload_n dX2_takeNode_39 rfl ?_
      refine E_bi 16 dX2_takeNode_40 (by decide) ?_
      have hx8 : 8 ≤ x := (nI_leI (by omega) (by omega)).mp c_17
      rw [show (16 : Int32) = nI 16 by decide]
      refine E_icmp_ge 55 dX2_takeNode_42 (by decide) (fun c_42 => absurd c_42 (nI_ge (by omega) (by omega))) (fun c_42 => ?_)
      refine E_aload_n dX2_takeNode_45 rfl ?_
      refine E_getR dX2_takeNode_46 fl_X2_15 (by first | assumption | rfl) (by assumption) rfl ?_
      refine E_iload_n dX2_takeNode_49 rfl ?_
      refine E_bi 8 dX2_takeNode_50 (by decide) ?_
      refine E_isub dX2_takeNode_52 ?_
      refine E_ic 1 dX2_takeNode_53 (by decide) ?_
      rw [show (8 : Int32) = nI 8 by decide, pk_sub hx8]
      refine E_zast dX2_takeNode_54 (by first | assumption | rfl) (vp_in_nI (by omega) (by omega)) ?_
      rw [nI_clamp (by omega)]
      exact E_retv dX2_takeNode_55 rfl (Nat.le_of_ble_eq_true rfl) (Nat.le_of_ble_eq_true rfl) ⟨rfl, rfl, by rw [takeNodeA, if_neg hne, if_neg (by omega)]; exact C.flag (j := 0) (by decide) (by omega) true, CF_sI CF.rf (by decide)⟩
    · have hx8 : x < 8 := Nat.lt_of_not_le fun q => c_17 (nI_le q (by omega))
      refine E_aload_n dX2_takeNode_20 rfl ?_
      refine E_ic 2 dX2_takeNode_21 (by decide) ?_
      refine E_iload_n dX2_takeNode_22 rfl ?_
      refine E_imul dX2_takeNode_23 ?_
      refine E_ic 1 dX2_takeNode_24 (by decide) ?_
      refine E_iadd dX2_takeNode_25 ?_
      rw [show (2 : Int32) = nI 2 by decide, pk_mul, nI_1]
      refine cV1 (N := mX2_putToWait) dX2_takeNode_26 cn_X2_putToWait lk_X2_51 ⟨Nat.le_of_ble_eq_true rfl, Nat.le_of_ble_eq_true rfl⟩ (by first | assumption | rfl) rfl (Nat.le_of_ble_eq_true rfl) ⟨rfl, rfl⟩ (c_putToWait C (by omega)) (fun v3 h3 ⟨hv3, C3, F3⟩ => ?_)
      rw [hv3]
      refine E_aload_n dX2_takeNode_29 rfl ?_
      refine E_ic 2 dX2_takeNode_30 (by decide) ?_
      refine E_iload_n dX2_takeNode_31 rfl ?_
      refine E_imul dX2_takeNode_32 ?_
      rw [show (2 : Int32) = nI 2 by decide, pk_mul]
      refine cV1 (N := mX2_putToWait) dX2_takeNode_33 cn_X2_putToWait lk_X2_51 ⟨Nat.le_of_ble_eq_true rfl, Nat.le_of_ble_eq_true rfl⟩ (by first | assumption | rfl) rfl (Nat.le_of_ble_eq_true rfl) ⟨rfl, rfl⟩ (c_putToWait C3 (by rw [aN_at]; simp; omega)) (fun v4 h4 ⟨hv4, C4, F4⟩ => ?_)
      rw [hv4]
      refine E_goto 55 dX2_takeNode_36 (by decide) ?_
      exact E_retv dX2_takeNode_55 rfl (Nat.le_of_ble_eq_true rfl) (Nat.le_of_ble_eq_true rfl) ⟨rfl, rfl, by rw [aN_aN, aN_at, List.append_assoc] at C4; rw [takeNodeA, if_neg hne, if_pos hx8]; exact C4, F3.tr F4⟩
  · exact E_retv dX2_takeNode_13 rfl (Nat.le_of_ble_eq_true rfl) (Nat.le_of_ble_eq_true rfl) ⟨rfl, rfl, by rw [takeNodeA, if_pos (show nodeF (tF a) x = d from (lg_cmp_eq _ _).mp c_10)]; exact C, CF.rf⟩
theorem sid_59 (e : Nat) : sid e + 20 ≤ 59 := by rcases sid_in e with q | q <;> rw [q] <;> decide
def takeGoneA (a : Ab) (f : Nat) : Ab := if a.1 18 = 1 then aF (aB a 0 (va_up (a.2.2.2.2.1 0) f false)) (tg a) (setF (tF a) f none) else if a.1 18 = 2 then aB (aB a 0 (va_up (a.2.2.2.2.1 0) f false)) 1 (va_up (a.2.2.2.2.1 1) f true) else aB a 0 (va_up (a.2.2.2.2.1 0) f false)
theorem c_takeGone {a : Ab} {h : Hp} (C : CRep a h) {f : Nat} (hf : f < 8) (hF : a.1 19 = nI f) : Sp0 mX2_takeGone [.ref 53] SH h (fun v h' => v = none ∧ CRep (takeGoneA a f) h' ∧ CF h h') := by
  refine Sp0.of (by decide) (Nat.le_of_ble_eq_true rfl) ?_
  show E mX2_takeGone none _ 0 [some (.ref 53)] [] SH h 0 0
  refine E_aload_n dX2_takeGone_0 rfl ?_
  refine cV0 (N := mX2_settle) dX2_takeGone_1 cn_X2_settle lk_X2_114 ⟨Nat.le_of_ble_eq_true rfl, Nat.le_of_ble_eq_true rfl⟩ (by first | assumption | rfl) rfl (Nat.le_of_ble_eq_true rfl) ⟨rfl, rfl⟩ (c_settle C hf hF) (fun v2 h2 ⟨hv2, C2, F2⟩ => ?_)
  rw [hv2]
  have e18 : h2.1 53 8 = a.1 18 := C2.1 18 (by decide)
  have e19 : h2.1 53 9 = nI f := (C2.1 19 (by decide)).trans hF
  have rT := C2.rT
  have S := C2.side (tg a) (tg_lt a)
  have r56 : h2.2.2 53 2 = some 56 := C2.2.2.1.2.2.2.2.2.2.2.2.2.2.2.2.2.2.2.2.1
  refine E_aload_n dX2_takeGone_4 rfl ?_
  refine E_getI dX2_takeGone_5 fl_X2_45 (by first | assumption | rfl) rfl ?_
  refine E_ic 1 dX2_takeGone_8 (by decide) ?_
  rw [e18]
  refine E_icmp_ne 26 dX2_takeGone_9 (by decide) (fun c_9 => ?_) (fun c_9 => ?_)
  · refine E_aload_n dX2_takeGone_26 rfl ?_
    refine E_getI dX2_takeGone_27 fl_X2_45 (by first | assumption | rfl) rfl ?_
    refine E_ic 2 dX2_takeGone_30 (by decide) ?_
    rw [e18]
    refine E_icmp_ne 54 dX2_takeGone_31 (by decide) (fun c_31 => ?_) (fun c_31 => ?_)
    · exact E_retv dX2_takeGone_54 rfl (Nat.le_of_ble_eq_true rfl) (Nat.le_of_ble_eq_true rfl) ⟨rfl, rfl, by rw [takeGoneA, if_neg c_9, if_neg c_31]; exact C2, F2⟩
    · refine E_aload_n dX2_takeGone_34 rfl ?_
      refine E_getI dX2_takeGone_35 fl_X2_31 (by first | assumption | rfl) rfl ?_
      rw [e19]
      refine cS1 (N := mX8_isFile) dX2_takeGone_38 cn_X8_isFile lk_X2_120 ⟨Nat.le_of_ble_eq_true rfl, Nat.le_of_ble_eq_true rfl⟩ (Nat.le_of_ble_eq_true rfl) ⟨rfl, rfl⟩ (c_isFile _) (fun v3 h3 ⟨hv3, hh3⟩ => ?_)
      rw [hv3, hh3]
      rw [if_pos (show 0 ≤ (nI f).toInt ∧ (nI f).toInt < 8 from isF_nI hf)]
      refine E_if_eq 54 dX2_takeGone_41 (by decide) (fun c_41 => absurd c_41 (by decide)) (fun c_41 => ?_)
      refine E_aload_n dX2_takeGone_44 rfl ?_
      refine E_getR dX2_takeGone_45 fl_X2_19 (by first | assumption | rfl) (by assumption) rfl ?_
      refine E_aload_n dX2_takeGone_48 rfl ?_
      refine E_getI dX2_takeGone_49 fl_X2_31 (by first | assumption | rfl) rfl ?_
      rw [e19]
      refine E_ic 1 dX2_takeGone_52 (by decide) ?_
      refine E_zast dX2_takeGone_53 (by first | assumption | rfl) (vp_in_nI hf (by omega)) ?_
      rw [nI_clamp (by omega)]
      exact E_retv dX2_takeGone_54 rfl (Nat.le_of_ble_eq_true rfl) (Nat.le_of_ble_eq_true rfl) ⟨rfl, rfl, by rw [takeGoneA, if_neg c_9, if_pos c_31]; exact C2.flag (j := 1) (by decide) hf true, CF_sI F2 (by decide)⟩
  · refine E_aload_n dX2_takeGone_12 rfl ?_
    refine E_getR dX2_takeGone_13 fl_X2_35 (by first | assumption | rfl) (by assumption) rfl ?_
    refine E_aload_n dX2_takeGone_16 rfl ?_
    refine E_getI dX2_takeGone_17 fl_X2_31 (by first | assumption | rfl) rfl ?_
    rw [e19]
    refine cV1 (N := mX6_remove) dX2_takeGone_20 cn_X6_remove lk_X2_117 ⟨Nat.le_of_ble_eq_true rfl, Nat.le_of_ble_eq_true rfl⟩ S.1.1.1 rfl (Nat.le_of_ble_eq_true rfl) ⟨rfl, rfl⟩ (c_remove S hf) (fun v3 h3 ⟨hv3, S3, F3⟩ => ?_)
    rw [hv3]
    refine E_goto 54 dX2_takeGone_23 (by decide) ?_
    exact E_retv dX2_takeGone_54 rfl (Nat.le_of_ble_eq_true rfl) (Nat.le_of_ble_eq_true rfl) ⟨rfl, rfl, by rw [takeGoneA, if_pos c_9]; exact C2.setF (tg_lt a) S3 F3, F2.tr (CF_fr CF.rf F3 (sid_59 _))⟩
def takeBytesA (a : Ab) : Ab := aN (aI a 26 (a.1 26 + nI (a.2.2.1 2).length)) 1 ((a.2.2.1 1 ++ a.2.2.1 2).take 500)
theorem take_lt {xs : List Nat} {n : Nat} (h : ∀ x ∈ xs, x < 256) : ∀ x ∈ xs.take n, x < 256 := fun x hx => h x (List.mem_of_mem_take hx)
theorem app_lt {xs ys : List Nat} (h : ∀ x ∈ xs, x < 256) (h2 : ∀ x ∈ ys, x < 256) : ∀ x ∈ xs ++ ys, x < 256 := fun x hx => (List.mem_append.mp hx).elim (h x) (h2 x)
theorem c_takeBytes {a : Ab} {h : Hp} (C : CRep a h) : Sp0 mX2_takeBytes [.ref 53, .ref 44] SH h (fun v h' => v = none ∧ CRep (takeBytesA a) h' ∧ CF h h') := by
  have e26 : h.1 53 16 = a.1 26 := C.1 26 (by decide)
  have c8 := C.2.2.2.2.2.2.2.1
  refine Sp0.of (by decide) (Nat.le_of_ble_eq_true rfl) ?_
  show E mX2_takeBytes none _ 0 [some (.ref 53), some (.ref 44)] [] SH h 0 0
  refine E_aload_n dX2_takeBytes_0 rfl ?_
  refine E_dup rfl dX2_takeBytes_1 ?_
  refine E_getI dX2_takeBytes_2 fl_X2_69 (by first | assumption | rfl) rfl ?_
  refine E_aload_n dX2_takeBytes_5 rfl ?_
  refine cV0 (N := mX3_count) dX2_takeBytes_6 cn_X3_count lk_X2_124 ⟨Nat.le_of_ble_eq_true rfl, Nat.le_of_ble_eq_true rfl⟩ (by first | assumption | rfl) rfl (Nat.le_of_ble_eq_true rfl) ⟨rfl, rfl⟩ (c_Row_count rfl) (fun v2 h2 ⟨hv2, hh2⟩ => ?_)
  rw [hv2, hh2]
  rw [e26, c8.1.2.2.2.1]
  refine E_iadd dX2_takeBytes_9 ?_
  refine E_putI dX2_takeBytes_10 fl_X2_69 (by first | assumption | rfl) rfl ?_
  have C2 := C.setI 26 (a.1 26 + nI (a.2.2.1 2).length) (by decide) (by decide)
  have F2 : CF h (sI h (loc 26).1 (loc 26).2 (a.1 26 + nI (a.2.2.1 2).length)) := CF_sI CF.rf (by decide)
  have c7 := C2.2.2.2.2.2.2.1
  have c8' := C2.2.2.2.2.2.2.2.1
  have r3 : (sI h (loc 26).1 (loc 26).2 (a.1 26 + nI (a.2.2.1 2).length)).2.2 53 3 = some 57 := C2.2.2.1.2.2.2.2.2.2.2.2.2.2.2.2.2.2.2.2.2.1
  refine E_aload_n dX2_takeBytes_13 rfl ?_
  refine E_getR dX2_takeBytes_14 fl_X2_27 (by first | assumption | rfl) (by assumption) rfl ?_
  refine E_aload_n dX2_takeBytes_17 rfl ?_
  refine cV1 (N := mX3_addAll) dX2_takeBytes_18 cn_X3_addAll lk_X2_125 ⟨Nat.le_of_ble_eq_true rfl, Nat.le_of_ble_eq_true rfl⟩ (by first | assumption | rfl) rfl (Nat.le_of_ble_eq_true rfl) ⟨rfl, rfl⟩ (c_Row_addAll c7.1 c8'.1 (by decide) (by decide)) (fun v3 h3 ⟨hv3, R3, F3⟩ => ?_)
  rw [hv3]
  exact E_retv dX2_takeBytes_21 rfl (Nat.le_of_ble_eq_true rfl) (Nat.le_of_ble_eq_true rfl) ⟨rfl, rfl, C2.built R3 F3 (take_lt (app_lt c7.2 c8'.2)), CF_row F2 F3 (by decide) (by decide)⟩
def takeBlockA (a : Ab) (j B f : Nat) : Ab := match tF a f with
  | none => aI a 25 (a.1 25 + 1)
  | some own => aN (aI a 25 (a.1 25 + 1)) 1 ((a.2.2.1 1 ++ (own.drop (j * B)).take B).take 500)
theorem c_takeBlock {a : Ab} {h : Hp} (C : CRep a h) {j B f : Nat} (hj : j ≤ 500) (hB : a.1 16 = nI B) (hB2 : B ≤ 64) (hf : f < 8) (hF : a.1 19 = nI f) : Sp0 mX2_takeBlock [.ref 53, .int (nI j)] SH h (fun v h' => v = none ∧ CRep (takeBlockA a j B f) h' ∧ CF h h') := by
  have e25 : h.1 53 15 = a.1 25 := C.1 25 (by decide)
  have hjB : j * B ≤ 32000 := Nat.mul_le_mul hj hB2
  have C1 := C.setI 25 (a.1 25 + 1) (by decide) (by decide)
  have F1 : CF h (sI h 53 15 (a.1 25 + 1)) := CF_sI CF.rf (by decide)
  generalize hh1 : sI h (loc 25).1 (loc 25).2 (a.1 25 + 1) = h1 at C1
  have hh1' : sI h 53 15 (a.1 25 + 1) = h1 := hh1
  rw [hh1'] at F1
  have rT := C1.rT
  have S := C1.side (tg (aI a 25 (a.1 25 + 1))) (tg_lt _)
  have e19 : h1.1 53 9 = nI f := (C1.1 19 (by decide)).trans hF
  have hown : (aI a 25 (a.1 25 + 1)).2.2.2.1 (tg (aI a 25 (a.1 25 + 1))) = tF a := rfl
  rw [hown] at S
  refine Sp0.of (by decide) (Nat.le_of_ble_eq_true rfl) ?_
  show E mX2_takeBlock none _ 0 [some (.ref 53), some (.int (nI j)), none, none, none] [] SH h 0 0
  cases hx : tF a f with
  | none =>
    refine E_aload_n dX2_takeBlock_0 rfl ?_
    refine E_dup rfl dX2_takeBlock_1 ?_
    refine E_getI dX2_takeBlock_2 fl_X2_66 (by first | assumption | rfl) rfl ?_
    rw [e25]
    refine E_ic 1 dX2_takeBlock_5 (by decide) ?_
    refine E_iadd dX2_takeBlock_6 ?_
    refine E_putI dX2_takeBlock_7 fl_X2_66 (by first | assumption | rfl) rfl ?_
    rw [hh1']
    refine E_aload_n dX2_takeBlock_10 rfl ?_
    refine E_getR dX2_takeBlock_11 fl_X2_35 (by first | assumption | rfl) (by assumption) rfl ?_
    refine E_aload_n dX2_takeBlock_14 rfl ?_
    refine E_getI dX2_takeBlock_15 fl_X2_31 (by first | assumption | rfl) rfl ?_
    rw [e19]
    refine cV1 (N := mX6_existing) dX2_takeBlock_18 cn_X6_existing lk_X2_95 ⟨Nat.le_of_ble_eq_true rfl, Nat.le_of_ble_eq_true rfl⟩ S.1.1.1 rfl (Nat.le_of_ble_eq_true rfl) ⟨rfl, rfl⟩ (c_existing S.1 _) (fun v2 h2 ⟨hv2, hh2⟩ => ?_)
    rw [hv2, hh2, exF_none hf hx]
    refine E_astore_nN dX2_takeBlock_21 (by decide) ?_
    refine E_aload_nN dX2_takeBlock_22 rfl ?_
    refine E_ifnonnullN dX2_takeBlock_23 ?_
    exact E_retv dX2_takeBlock_26 rfl (Nat.le_of_ble_eq_true rfl) (Nat.le_of_ble_eq_true rfl) ⟨rfl, rfl, by rw [takeBlockA, hx]; exact C1, F1⟩
  | some own =>
    have R := S.1.2.1 f hf
    rw [hx] at R
    have hO : ∀ x ∈ own, x < 256 := S.1.2.2.2 f own hx
    have hol : own.length ≤ 500 := R.2.2.2.2.1
    have c7 := C1.2.2.2.2.2.2.1
    generalize hbl : (aI a 25 (a.1 25 + 1)).2.2.1 1 = bl at c7
    have n1 : rId (sid (tg (aI a 25 (a.1 25 + 1)))) f ≠ 57 := by have := sid_in (tg (aI a 25 (a.1 25 + 1))); unfold rId; omega
    have n2 : rId (sid (tg (aI a 25 (a.1 25 + 1)))) f ≠ 58 := by have := sid_in (tg (aI a 25 (a.1 25 + 1))); unfold rId; omega
    have n3 : cId (sid (tg (aI a 25 (a.1 25 + 1)))) f ≠ 57 := by have := sid_in (tg (aI a 25 (a.1 25 + 1))); unfold cId; omega
    have n4 : cId (sid (tg (aI a 25 (a.1 25 + 1)))) f ≠ 58 := by have := sid_in (tg (aI a 25 (a.1 25 + 1))); unfold cId; omega
    generalize hr : rId (sid (tg (aI a 25 (a.1 25 + 1)))) f = r at R n1 n2
    generalize cId (sid (tg (aI a 25 (a.1 25 + 1)))) f = c at R n3 n4
    have loop : ∀ (n t : Nat) (h3 : Hp), B - t ≤ n → t ≤ B → (0 < t → j * B + t ≤ own.length) → RowL SH h3 57 58 500 ((bl ++ (own.drop (j * B)).take t).take 500) → RowF h1 h3 57 58 → E mX2_takeBlock none (fun v sh' h' => sh' = SH ∧ v = none ∧ CRep (takeBlockA a j B f) h' ∧ CF h h') 37 [some (.ref 53), some (.int (nI j)), some (.ref r), some (.int (nI (j * B))), some (.int (nI (j * B + t)))] [] SH h3 0 0 := by
      intro n
      have fin : ∀ (h3 : Hp), RowL SH h3 57 58 500 ((bl ++ (own.drop (j * B)).take B).take 500) → RowF h1 h3 57 58 → CRep (takeBlockA a j B f) h3 ∧ CF h h3 := by
        intro h3 R3 F3
        refine ⟨?_, CF_row F1 F3 (by decide) (by decide)⟩
        rw [takeBlockA, hx]
        have hbl' : a.2.2.1 1 = bl := hbl
        show CRep (aN (aI a 25 (a.1 25 + 1)) 1 ((a.2.2.1 1 ++ (own.drop (j * B)).take B).take 500)) h3
        rw [hbl']
        exact C1.built R3 F3 (take_lt (app_lt c7.2 (fun x hx => hO x (List.mem_of_mem_drop (List.mem_of_mem_take hx)))))
      induction n with
      | zero =>
        intro t h3 q1 q2 q0 R3 F3
        have e : t = B := by omega
        subst e
        have e16 : h3.1 53 6 = nI t := by rw [F3.2 53 (by decide) (by decide)]; exact (C1.1 16 (by decide)).trans hB
        refine E_iload dX2_takeBlock_37 rfl ?_
        refine E_iload_n dX2_takeBlock_39 rfl ?_
        refine E_aload_n dX2_takeBlock_40 rfl ?_
        refine E_getI dX2_takeBlock_41 fl_X2_39 (by first | assumption | rfl) rfl ?_
        refine E_iadd dX2_takeBlock_44 ?_
        rw [e16, nI_add]
        refine E_icmp_ge 76 dX2_takeBlock_45 (by decide) (fun c_45 => ?_) (fun c_45 => absurd (nI_le (by omega) (by omega)) c_45)
        exact E_retv dX2_takeBlock_76 rfl (Nat.le_of_ble_eq_true rfl) (Nat.le_of_ble_eq_true rfl) ⟨rfl, rfl, fin h3 R3 F3⟩
      | succ n ih =>
        intro t h3 q1 q2 q0 R3 F3
        have e16 : h3.1 53 6 = nI B := by rw [F3.2 53 (by decide) (by decide)]; exact (C1.1 16 (by decide)).trans hB
        have R4 := R.other F3 n1 n2 n3 n4
        have r3 : h3.2.2 53 3 = some 57 := by rw [F3.1]; exact C1.2.2.1.2.2.2.2.2.2.2.2.2.2.2.2.2.2.2.2.2.1
        by_cases e : t = B
        · subst e
          refine E_iload dX2_takeBlock_37 rfl ?_
          refine E_iload_n dX2_takeBlock_39 rfl ?_
          refine E_aload_n dX2_takeBlock_40 rfl ?_
          refine E_getI dX2_takeBlock_41 fl_X2_39 (by first | assumption | rfl) rfl ?_
          refine E_iadd dX2_takeBlock_44 ?_
          rw [e16, nI_add]
          refine E_icmp_ge 76 dX2_takeBlock_45 (by decide) (fun c_45 => ?_) (fun c_45 => absurd (nI_le (by omega) (by omega)) c_45)
          exact E_retv dX2_takeBlock_76 rfl (Nat.le_of_ble_eq_true rfl) (Nat.le_of_ble_eq_true rfl) ⟨rfl, rfl, fin h3 R3 F3⟩
        · refine E_iload dX2_takeBlock_37 rfl ?_
          refine E_iload_n dX2_takeBlock_39 rfl ?_
          refine E_aload_n dX2_takeBlock_40 rfl ?_
          refine E_getI dX2_takeBlock_41 fl_X2_39 (by first | assumption | rfl) rfl ?_
          refine E_iadd dX2_takeBlock_44 ?_
          rw [e16, nI_add]
          refine E_icmp_ge 76 dX2_takeBlock_45 (by decide) (fun c_45 => absurd c_45 (nI_ge (by omega) (by omega))) (fun c_45 => ?_)
          refine E_iload dX2_takeBlock_48 rfl ?_
          refine E_aload_n dX2_takeBlock_50 rfl ?_
          refine cV0 (N := mX3_count) dX2_takeBlock_51 cn_X3_count lk_X2_124 ⟨Nat.le_of_ble_eq_true rfl, Nat.le_of_ble_eq_true rfl⟩ R4.1 rfl (Nat.le_of_ble_eq_true rfl) ⟨rfl, rfl⟩ (c_Row_count R4.1) (fun v5 h5 ⟨hv5, hh5⟩ => ?_)
          rw [hv5, hh5, R4.2.2.2.1]
          refine E_icmp_ge 76 dX2_takeBlock_54 (by decide) (fun c_54 => ?_) (fun c_54 => ?_)
          · exact E_retv dX2_takeBlock_76 rfl (Nat.le_of_ble_eq_true rfl) (Nat.le_of_ble_eq_true rfl) ⟨rfl, rfl, fin h3 (by have hge := (nI_leI (by show ((some own).getD []).length < _; simp; omega) (by omega)).mp c_54; rw [List.take_of_length_le (l := own.drop (j * B)) (by simp at hge ⊢; omega)] at R3 ⊢; exact R3) F3⟩
          · have hlt : j * B + t < own.length := Nat.lt_of_not_le fun q => c_54 (nI_le q (by omega))
            refine E_aload_n dX2_takeBlock_57 rfl ?_
            refine E_getR dX2_takeBlock_58 fl_X2_27 (by first | assumption | rfl) (by assumption) rfl ?_
            refine E_aload_n dX2_takeBlock_61 rfl ?_
            refine E_iload dX2_takeBlock_62 rfl ?_
            refine cV1 (N := mX3_get) dX2_takeBlock_64 cn_X3_get lk_X2_129 ⟨Nat.le_of_ble_eq_true rfl, Nat.le_of_ble_eq_true rfl⟩ R4.1 rfl (Nat.le_of_ble_eq_true rfl) ⟨rfl, rfl⟩ (c_Row_get R4 _) (fun v6 h6 ⟨hv6, hh6⟩ => ?_)
            rw [hv6, hh6, gI, if_pos (by rw [nI_toInt (by omega)]; exact ⟨by omega, by show ((j * B + t : Nat) : Int) < own.length; omega⟩), nI_clamp (by omega)]
            refine cV1 (N := mX3_add) dX2_takeBlock_67 cn_X3_add lk_X2_133 ⟨Nat.le_of_ble_eq_true rfl, Nat.le_of_ble_eq_true rfl⟩ (by first | assumption | rfl) rfl (Nat.le_of_ble_eq_true rfl) ⟨rfl, rfl⟩ (c_Row_add R3 _) (fun v7 h7 ⟨hv7, R7, F7⟩ => ?_)
            rw [hv7]
            refine E_iinc dX2_takeBlock_70 rfl (by decide) ?_
            refine E_goto 37 dX2_takeBlock_73 (by decide) ?_
            rw [nI_inc]
            have h8 : t < (own.drop (j * B)).length := by simp; omega
            have h9 : own.getD (j * B + t) 0 = (own.drop (j * B)).getD t 0 := by simp [List.getD]
            rw [show (some own).getD [] = own from rfl, h9, addAll_step h8] at R7
            exact ih (t + 1) h7 (by omega) (by omega) (fun _ => by omega) R7 (F3.tr F7)
    refine E_aload_n dX2_takeBlock_0 rfl ?_
    refine E_dup rfl dX2_takeBlock_1 ?_
    refine E_getI dX2_takeBlock_2 fl_X2_66 (by first | assumption | rfl) rfl ?_
    rw [e25]
    refine E_ic 1 dX2_takeBlock_5 (by decide) ?_
    refine E_iadd dX2_takeBlock_6 ?_
    refine E_putI dX2_takeBlock_7 fl_X2_66 (by first | assumption | rfl) rfl ?_
    rw [hh1']
    refine E_aload_n dX2_takeBlock_10 rfl ?_
    refine E_getR dX2_takeBlock_11 fl_X2_35 (by first | assumption | rfl) (by assumption) rfl ?_
    refine E_aload_n dX2_takeBlock_14 rfl ?_
    refine E_getI dX2_takeBlock_15 fl_X2_31 (by first | assumption | rfl) rfl ?_
    rw [e19]
    refine cV1 (N := mX6_existing) dX2_takeBlock_18 cn_X6_existing lk_X2_95 ⟨Nat.le_of_ble_eq_true rfl, Nat.le_of_ble_eq_true rfl⟩ S.1.1.1 rfl (Nat.le_of_ble_eq_true rfl) ⟨rfl, rfl⟩ (c_existing S.1 _) (fun v2 h2 ⟨hv2, hh2⟩ => ?_)
    rw [hv2, hh2, exF_of hf hx]
    refine E_astore_n dX2_takeBlock_21 (by decide) ?_
    refine E_aload_n dX2_takeBlock_22 rfl ?_
    refine E_ifnonnull 27 dX2_takeBlock_23 (by decide) ?_
    refine E_iload_n dX2_takeBlock_27 rfl ?_
    refine E_aload_n dX2_takeBlock_28 rfl ?_
    refine E_getI dX2_takeBlock_29 fl_X2_39 (by first | assumption | rfl) rfl ?_
    refine E_imul dX2_takeBlock_32 ?_
    rw [show h1.1 53 6 = nI B from (C1.1 16 (by decide)).trans hB, pk_mul]
    refine E_istore_n dX2_takeBlock_33 (by decide) ?_
    refine E_iload_n dX2_takeBlock_34 rfl ?_
    refine E_istore dX2_takeBlock_35 (by decide) ?_
    rw [hr]
    exact loop B 0 h1 (by omega) (by omega) (by omega) (by have := c7.1; simpa [List.take_of_length_le c7.1.2.2.2.2.1] using this) RowF.rf
def kTwice (k : Int32) : Int32 := if 2 * k < 8 then 2 * k else 8
def takeEndA (a : Ab) (d : Int64) (f : Nat) : Ab := if dig (a.2.2.1 1) = d then aB (aI (aF a (tg a) (setF (tF a) f (some (a.2.2.1 1)))) 22 (a.1 22 + 1)) 0 (va_up (a.2.2.2.2.1 0) f false) else if a.1 21 + 1 < 3 then aI (aI (aI a 24 (a.1 24 + 1)) 21 (a.1 21 + 1)) 20 (kTwice (a.1 20)) else aB (aI (aI (aI (aI a 24 (a.1 24 + 1)) 21 (a.1 21 + 1)) 20 (kTwice (a.1 20))) 23 (a.1 23 + 1)) 0 (va_up (a.2.2.2.2.1 0) f false)
theorem c_takeEnd {a : Ab} {h : Hp} (C : CRep a h) (d : Int64) {f : Nat} (hf : f < 8) (hF : a.1 19 = nI f) : Sp0 mX2_takeEnd [.ref 53, .long d] SH h (fun v h' => v = none ∧ CRep (takeEndA a d f) h' ∧ CF h h') := by
  obtain ⟨r00, r01, r02, r03, r420, r421, r422, r423, r424, r425, r430, r431, r490, r491, r530, r531, r532, r533, r534⟩ := id C.2.2.1
  have e19 : h.1 53 9 = a.1 19 := C.1 19 (by decide)
  have e20 : h.1 53 10 = a.1 20 := C.1 20 (by decide)
  have e21 : h.1 53 11 = a.1 21 := C.1 21 (by decide)
  have e22 : h.1 53 12 = a.1 22 := C.1 22 (by decide)
  have e23 : h.1 53 13 = a.1 23 := C.1 23 (by decide)
  have e24 : h.1 53 14 = a.1 24 := C.1 24 (by decide)
  have c7 := C.2.2.2.2.2.2.1
  have hbl := c7.1.2.2.2.2.1
  have rT := C.rT
  have S := C.side (tg a) (tg_lt a)
  have hsid := sid_in (tg a)
  refine Sp0.of (by decide) (Nat.le_of_ble_eq_true rfl) ?_
  show E mX2_takeEnd none _ 0 [some (.ref 53), some (.long d), none] [] SH h 0 0
  refine E_aload_n dX2_takeEnd_0 rfl ?_
  refine E_getR dX2_takeEnd_1 fl_X2_27 (by first | assumption | rfl) (by assumption) rfl ?_
  refine E_ic 0 dX2_takeEnd_4 (by decide) ?_
  refine E_si 500 dX2_takeEnd_5 (by decide) ?_
  rw [show (0 : Int32) = nI 0 by decide, show (500 : Int32) = nI 500 by decide]
  refine cV2 (N := mX3_digestOf) dX2_takeEnd_8 cn_X3_digestOf lk_X2_136 ⟨Nat.le_of_ble_eq_true rfl, Nat.le_of_ble_eq_true rfl⟩ (by first | assumption | rfl) rfl (Nat.le_of_ble_eq_true rfl) ⟨rfl, rfl⟩ (c_Row_digestOf c7.1 (by omega) (by omega)) (fun v2 h2 ⟨hv2, hh2⟩ => ?_)
  rw [hv2, hh2, List.drop_zero, List.take_of_length_le hbl]
  refine E_lload_n dX2_takeEnd_11 rfl ?_
  refine E_lcmp dX2_takeEnd_12 ?_
  refine E_if_ne 46 dX2_takeEnd_13 (by decide) (fun c_13 => ?_) (fun c_13 => ?_)
  · have hne : ¬ dig (a.2.2.1 1) = d := fun q => c_13 ((lg_cmp_eq _ _).mpr q)
    refine E_aload_n dX2_takeEnd_46 rfl ?_
    refine E_dup rfl dX2_takeEnd_47 ?_
    refine E_getI dX2_takeEnd_48 fl_X2_63 (by first | assumption | rfl) rfl ?_
    rw [e24]
    refine E_ic 1 dX2_takeEnd_51 (by decide) ?_
    refine E_iadd dX2_takeEnd_52 ?_
    refine E_putI dX2_takeEnd_53 fl_X2_63 (by first | assumption | rfl) rfl ?_
    have C3 := C.setI 24 (a.1 24 + 1) (by decide) (by decide)
    have F3 : CF h (sI h 53 14 (a.1 24 + 1)) := CF_sI CF.rf (by decide)
    refine E_aload_n dX2_takeEnd_56 rfl ?_
    refine E_dup rfl dX2_takeEnd_57 ?_
    refine E_getI dX2_takeEnd_58 fl_X2_88 (by first | assumption | rfl) rfl ?_
    rw [show (sI h 53 14 (a.1 24 + 1)).1 53 11 = a.1 21 from C3.1 21 (by decide)]
    refine E_ic 1 dX2_takeEnd_61 (by decide) ?_
    refine E_iadd dX2_takeEnd_62 ?_
    refine E_putI dX2_takeEnd_63 fl_X2_88 (by first | assumption | rfl) rfl ?_
    have C4 := C3.setI 21 (a.1 21 + 1) (by decide) (by decide)
    have F4 : CF h (sI (sI h 53 14 (a.1 24 + 1)) 53 11 (a.1 21 + 1)) := CF_sI F3 (by decide)
    have g20 : (sI (sI h 53 14 (a.1 24 + 1)) 53 11 (a.1 21 + 1)).1 53 10 = a.1 20 := C4.1 20 (by decide)
    refine E_aload_n dX2_takeEnd_66 rfl ?_
    refine E_bi 8 dX2_takeEnd_67 (by decide) ?_
    refine E_ic 2 dX2_takeEnd_69 (by decide) ?_
    refine E_aload_n dX2_takeEnd_70 rfl ?_
    refine E_getI dX2_takeEnd_71 fl_X2_85 (by first | assumption | rfl) rfl ?_
    refine E_imul dX2_takeEnd_74 ?_
    rw [g20]
    refine cS2 (N := mJ9_min_7cf53) dX2_takeEnd_75 cn_J9_min_7cf53 lk_X2_144 ⟨Nat.le_of_ble_eq_true rfl, Nat.le_of_ble_eq_true rfl⟩ (Nat.le_of_ble_eq_true rfl) ⟨rfl, rfl⟩ (c_min _ _) (fun v6 h6 ⟨hv6, hh6⟩ => ?_)
    rw [hv6, hh6]
    refine E_putI dX2_takeEnd_78 fl_X2_85 (by first | assumption | rfl) rfl ?_
    have C7 := C4.setI 20 (kTwice (a.1 20)) (by decide) (by decide)
    have F7 : CF h (sI (sI (sI h 53 14 (a.1 24 + 1)) 53 11 (a.1 21 + 1)) 53 10 (kTwice (a.1 20))) := CF_sI F4 (by decide)
    have g21 : (sI (sI (sI h 53 14 (a.1 24 + 1)) 53 11 (a.1 21 + 1)) 53 10 (kTwice (a.1 20))).1 53 11 = a.1 21 + 1 := C7.1 21 (by decide)
    have g23 : (sI (sI (sI h 53 14 (a.1 24 + 1)) 53 11 (a.1 21 + 1)) 53 10 (kTwice (a.1 20))).1 53 13 = a.1 23 := C7.1 23 (by decide)
    rw [show (if 2 * a.1 20 < 8 then 2 * a.1 20 else 8) = kTwice (a.1 20) from rfl]
    refine E_aload_n dX2_takeEnd_81 rfl ?_
    refine E_getI dX2_takeEnd_82 fl_X2_88 (by first | assumption | rfl) rfl ?_
    rw [g21]
    refine E_ic 3 dX2_takeEnd_85 (by decide) ?_
    refine E_icmp_lt 103 dX2_takeEnd_86 (by decide) (fun c_86 => ?_) (fun c_86 => ?_)
    · exact E_retv dX2_takeEnd_103 rfl (Nat.le_of_ble_eq_true rfl) (Nat.le_of_ble_eq_true rfl) ⟨rfl, rfl, by rw [takeEndA, if_neg hne, if_pos c_86]; exact C7, F7⟩
    · refine E_aload_n dX2_takeEnd_89 rfl ?_
      refine E_dup rfl dX2_takeEnd_90 ?_
      refine E_getI dX2_takeEnd_91 fl_X2_60 (by first | assumption | rfl) rfl ?_
      rw [g23]
      refine E_ic 1 dX2_takeEnd_94 (by decide) ?_
      refine E_iadd dX2_takeEnd_95 ?_
      refine E_putI dX2_takeEnd_96 fl_X2_60 (by first | assumption | rfl) rfl ?_
      have C8 := C7.setI 23 (a.1 23 + 1) (by decide) (by decide)
      refine E_aload_n dX2_takeEnd_99 rfl ?_
      refine cV0 (N := mX2_settle) dX2_takeEnd_100 cn_X2_settle lk_X2_114 ⟨Nat.le_of_ble_eq_true rfl, Nat.le_of_ble_eq_true rfl⟩ (by first | assumption | rfl) rfl (Nat.le_of_ble_eq_true rfl) ⟨rfl, rfl⟩ (c_settle C8 hf hF) (fun v9 h9 ⟨hv9, C9, F9⟩ => ?_)
      rw [hv9]
      exact E_retv dX2_takeEnd_103 rfl (Nat.le_of_ble_eq_true rfl) (Nat.le_of_ble_eq_true rfl) ⟨rfl, rfl, by rw [takeEndA, if_neg hne, if_neg c_86]; exact C9, (CF_sI F7 (by decide)).tr F9⟩
  · have heq : dig (a.2.2.1 1) = d := (lg_cmp_eq _ _).mp c_13
    refine E_aload_n dX2_takeEnd_16 rfl ?_
    refine E_getR dX2_takeEnd_17 fl_X2_35 (by first | assumption | rfl) (by assumption) rfl ?_
    refine E_aload_n dX2_takeEnd_20 rfl ?_
    refine E_getI dX2_takeEnd_21 fl_X2_31 (by first | assumption | rfl) rfl ?_
    refine E_aload_n dX2_takeEnd_24 rfl ?_
    refine E_getR dX2_takeEnd_25 fl_X2_27 (by first | assumption | rfl) (by assumption) rfl ?_
    rw [e19, hF]
    refine cV2 (N := mX6_replace) dX2_takeEnd_28 cn_X6_replace lk_X2_140 ⟨Nat.le_of_ble_eq_true rfl, Nat.le_of_ble_eq_true rfl⟩ S.1.1.1 rfl (Nat.le_of_ble_eq_true rfl) ⟨rfl, rfl⟩ (c_replace S hf c7.1 (by unfold rId; omega) (by unfold cId; omega) c7.2) (fun v3 h3 ⟨hv3, S3, F3⟩ => ?_)
    rw [hv3]
    have C3 := C.setF (tg_lt a) S3 F3
    have g22 : h3.1 53 12 = a.1 22 := C3.1 22 (by decide)
    refine E_aload_n dX2_takeEnd_31 rfl ?_
    refine E_dup rfl dX2_takeEnd_32 ?_
    refine E_getI dX2_takeEnd_33 fl_X2_57 (by first | assumption | rfl) rfl ?_
    rw [g22]
    refine E_ic 1 dX2_takeEnd_36 (by decide) ?_
    refine E_iadd dX2_takeEnd_37 ?_
    refine E_putI dX2_takeEnd_38 fl_X2_57 (by first | assumption | rfl) rfl ?_
    have C4 := C3.setI 22 (a.1 22 + 1) (by decide) (by decide)
    refine E_aload_n dX2_takeEnd_41 rfl ?_
    refine cV0 (N := mX2_settle) dX2_takeEnd_42 cn_X2_settle lk_X2_114 ⟨Nat.le_of_ble_eq_true rfl, Nat.le_of_ble_eq_true rfl⟩ (by first | assumption | rfl) rfl (Nat.le_of_ble_eq_true rfl) ⟨rfl, rfl⟩ (c_settle C4 hf hF) (fun v5 h5 ⟨hv5, C5, F5⟩ => ?_)
    rw [hv5]
    exact E_retv dX2_takeEnd_45 rfl (Nat.le_of_ble_eq_true rfl) (Nat.le_of_ble_eq_true rfl) ⟨rfl, rfl, by rw [takeEndA, if_pos heq]; exact C5, (CF_sI (CF_fr CF.rf F3 (sid_59 _)) (by decide)).tr F5⟩
def dropF (D : Nat → Bool) (F : FS) (i : Nat) : FS := fun g => if g < i ∧ D g = true then none else F g
theorem dropF_no {D : Nat → Bool} {F : FS} {i : Nat} (h : D i = false) : dropF D F (i + 1) = dropF D F i := by
  funext g
  by_cases q : g = i
  · subst q
    simp [dropF, h]
  · have q2 : (g < i + 1) ↔ (g < i) := by omega
    simp [dropF, q2]
theorem dropF_yes {D : Nat → Bool} {F : FS} {i : Nat} (h : D i = true) : dropF D F (i + 1) = setF (dropF D F i) i none := by
  funext g
  by_cases q : g = i
  · subst q
    simp [dropF, setF, h]
  · have q2 : (g < i + 1) ↔ (g < i) := by omega
    simp [dropF, setF, q, q2]
theorem c_dropTold {a : Ab} {h : Hp} (C : CRep a h) : Sp0 mX2_dropTold [.ref 53] SH h (fun v h' => v = none ∧ CRep (aF a (tg a) (dropF (a.2.2.2.2.1 1) (tF a) 8)) h' ∧ CF h h') := by
  refine Sp0.of (by decide) (Nat.le_of_ble_eq_true rfl) ?_
  show E mX2_dropTold none _ 0 [some (.ref 53), none] [] SH h 0 0
  have loop : ∀ (n i : Nat) (h3 : Hp), 8 - i ≤ n → i ≤ 8 → CRep (aF a (tg a) (dropF (a.2.2.2.2.1 1) (tF a) i)) h3 → CF h h3 → E mX2_dropTold none (fun v sh' h' => sh' = SH ∧ v = none ∧ CRep (aF a (tg a) (dropF (a.2.2.2.2.1 1) (tF a) 8)) h' ∧ CF h h') 2 [some (.ref 53), some (.int (nI i))] [] SH h3 0 0 := by
    intro n
    induction n with
    | zero =>
      intro i h3 h1 h2 C3 F3
      have e : i = 8 := by omega
      subst e
      refine E_iload_n dX2_dropTold_2 rfl ?_
      refine E_bi 8 dX2_dropTold_3 (by decide) ?_
      refine E_icmp_ge 31 dX2_dropTold_5 (by decide) (fun c_5 => ?_) (fun c_5 => absurd (by decide) c_5)
      exact E_retv dX2_dropTold_31 rfl (Nat.le_of_ble_eq_true rfl) (Nat.le_of_ble_eq_true rfl) ⟨rfl, rfl, C3, F3⟩
    | succ n ih =>
      intro i h3 h1 h2 C3 F3
      by_cases e : i = 8
      · subst e
        refine E_iload_n dX2_dropTold_2 rfl ?_
        refine E_bi 8 dX2_dropTold_3 (by decide) ?_
        refine E_icmp_ge 31 dX2_dropTold_5 (by decide) (fun c_5 => ?_) (fun c_5 => absurd (by decide) c_5)
        exact E_retv dX2_dropTold_31 rfl (Nat.le_of_ble_eq_true rfl) (Nat.le_of_ble_eq_true rfl) ⟨rfl, rfl, C3, F3⟩
      · have c6 := C3.2.2.2.2.2.1 i (by omega)
        have r56 : h3.2.2 53 2 = some 56 := C3.2.2.1.2.2.2.2.2.2.2.2.2.2.2.2.2.2.2.2.1
        have rT := C3.rT
        have S := C3.side (tg a) (tg_lt a)
        cases hD : a.2.2.2.2.1 1 i with
        | true =>
          have c6' : h3.1 56 i = 1 := by rw [c6]; show (if a.2.2.2.2.1 1 i = true then (1 : Int32) else 0) = 1; rw [hD]; rfl
          refine E_iload_n dX2_dropTold_2 rfl ?_
          refine E_bi 8 dX2_dropTold_3 (by decide) ?_
          rw [show (8 : Int32) = nI 8 by decide]
          refine E_icmp_ge 31 dX2_dropTold_5 (by decide) (fun c_5 => absurd c_5 (nI_ge (by omega) (by omega))) (fun c_5 => ?_)
          refine E_aload_n dX2_dropTold_8 rfl ?_
          refine E_getR dX2_dropTold_9 fl_X2_19 (by first | assumption | rfl) (by assumption) rfl ?_
          refine E_iload_n dX2_dropTold_12 rfl ?_
          refine E_zald dX2_dropTold_13 (by first | assumption | rfl) (vp_in_nI (by omega) (by omega)) ?_
          rw [nI_clamp (by omega), c6']
          refine E_if_eq 25 dX2_dropTold_14 (by decide) (fun c_14 => absurd c_14 (by decide)) (fun c_14 => ?_)
          refine E_aload_n dX2_dropTold_17 rfl ?_
          refine E_getR dX2_dropTold_18 fl_X2_35 (by first | assumption | rfl) (by assumption) rfl ?_
          refine E_iload_n dX2_dropTold_21 rfl ?_
          refine cV1 (N := mX6_remove) dX2_dropTold_22 cn_X6_remove lk_X2_117 ⟨Nat.le_of_ble_eq_true rfl, Nat.le_of_ble_eq_true rfl⟩ S.1.1.1 rfl (Nat.le_of_ble_eq_true rfl) ⟨rfl, rfl⟩ (c_remove S (by omega)) (fun v4 h4 ⟨hv4, S4, F4⟩ => ?_)
          rw [hv4]
          refine E_iinc dX2_dropTold_25 rfl (by decide) ?_
          refine E_goto 2 dX2_dropTold_28 (by decide) ?_
          rw [nI_inc]
          have C5 := C3.setF (tg_lt a) S4 F4
          rw [aF_aF, aF_at] at C5
          refine ih (i + 1) h4 (by omega) (by omega) ?_ (CF_fr F3 F4 (sid_59 _))
          rw [dropF_yes hD]
          exact C5
        | false =>
          have c6' : h3.1 56 i = 0 := by rw [c6]; show (if a.2.2.2.2.1 1 i = true then (1 : Int32) else 0) = 0; rw [hD]; rfl
          refine E_iload_n dX2_dropTold_2 rfl ?_
          refine E_bi 8 dX2_dropTold_3 (by decide) ?_
          rw [show (8 : Int32) = nI 8 by decide]
          refine E_icmp_ge 31 dX2_dropTold_5 (by decide) (fun c_5 => absurd c_5 (nI_ge (by omega) (by omega))) (fun c_5 => ?_)
          refine E_aload_n dX2_dropTold_8 rfl ?_
          refine E_getR dX2_dropTold_9 fl_X2_19 (by first | assumption | rfl) (by assumption) rfl ?_
          refine E_iload_n dX2_dropTold_12 rfl ?_
          refine E_zald dX2_dropTold_13 (by first | assumption | rfl) (vp_in_nI (by omega) (by omega)) ?_
          rw [nI_clamp (by omega), c6']
          refine E_if_eq 25 dX2_dropTold_14 (by decide) (fun c_14 => ?_) (fun c_14 => absurd rfl c_14)
          refine E_iinc dX2_dropTold_25 rfl (by decide) ?_
          refine E_goto 2 dX2_dropTold_28 (by decide) ?_
          rw [nI_inc]
          refine ih (i + 1) h3 (by omega) (by omega) ?_ F3
          rw [dropF_no hD]
          exact C3
  refine E_ic 0 dX2_dropTold_0 (by decide) ?_
  refine E_istore_n dX2_dropTold_1 (by decide) ?_
  exact loop 8 0 h (by omega) (by omega) (by rw [show dropF (a.2.2.2.2.1 1) (tF a) 0 = a.2.2.2.1 (tg a) by funext g; simp [dropF, tF], aF_self]; exact C) CF.rf
end
section
/-! Receiver: makeNext, start -/
def fileL (F : FS) (x : Int32) : List Nat := match exF F x with
  | none => []
  | some f => (F f).getD []
def rAsk (a : Ab) : Ab := aI (aI (aI (aN a 0 (a.2.2.1 0).dropLast) 9 0) 10 2) 11 (nI ((a.2.2.1 0).getD ((a.2.2.1 0).length - 1) 0))
def rPick (a : Ab) : Ab := if ltd (a.2.2.2.2.1 0) = a.1 19 then a else aI (aI (aI a 19 (ltd (a.2.2.2.2.1 0))) 20 (a.1 17)) 21 0
def rSums (a : Ab) (B K : Nat) : Ab := aI (aI (aI (aS (aN (aN (rPick a) 1 []) 3 [B, K]) 0 (blks B K (fileL (tF a) ((rPick a).1 19)))) 9 2) 10 (6 + (4 + nI K) * nI (blks B K (fileL (tF a) ((rPick a).1 19))).length)) 11 ((rPick a).1 19)
theorem rPick_i (a : Ab) {k : Nat} (h : k ≠ 19) (h2 : k ≠ 20) (h3 : k ≠ 21) : (rPick a).1 k = a.1 k := by
  unfold rPick
  split
  · rfl
  · simp [aI, va_up, h, h2, h3]
theorem rPick_2 (a : Ab) : (rPick a).2 = a.2 := by unfold rPick; split <;> rfl
theorem c_rAsk {a : Ab} {h : Hp} (C : CRep a h) (hw : 0 < (a.2.2.1 0).length) : Sp0 mX2_makeNext [.ref 53, .ref 43] SH h (fun v h' => v = none ∧ CRep (rAsk a) h' ∧ CF h h') := by
  obtain ⟨r00, r01, r02, r03, r420, r421, r422, r423, r424, r425, r430, r431, r490, r491, r530, r531, r532, r533, r534⟩ := id C.2.2.1
  have hW := C.2.2.2.1
  have C0 := C
  have hlt := hW.2.1
  refine Sp0.of (by decide) (Nat.le_of_ble_eq_true rfl) ?_
  show E mX2_makeNext none _ 0 [some (.ref 53), some (.ref 43), none] [] SH h 0 0
  have hlen : (nI (a.2.2.1 0).length : Int32) - 1 = nI ((a.2.2.1 0).length - 1) := by rw [show (1 : Int32) = nI 1 by decide, pk_sub hw]
  refine E_aload_n dX2_makeNext_0 rfl ?_
  refine E_getI dX2_makeNext_1 fl_X2_48 (by first | assumption | rfl) rfl ?_
  rw [hW.1]
  refine E_if_le 46 dX2_makeNext_4 (by decide) (fun c_4 => absurd c_4 (nI_nle hw (by omega))) (fun c_4 => ?_)
  refine E_aload_n dX2_makeNext_7 rfl ?_
  refine E_getI dX2_makeNext_8 fl_X2_48 (by first | assumption | rfl) rfl ?_
  refine E_bi 16 dX2_makeNext_11 (by decide) ?_
  rw [hW.1, show (16 : Int32) = nI 16 by decide]
  refine E_icmp_gt 46 dX2_makeNext_13 (by decide) (fun c_13 => absurd c_13 (nI_nlt (by omega) (by omega))) (fun c_13 => ?_)
  refine E_aload_n dX2_makeNext_16 rfl ?_
  refine E_dup rfl dX2_makeNext_17 ?_
  refine E_getI dX2_makeNext_18 fl_X2_48 (by first | assumption | rfl) rfl ?_
  refine E_ic 1 dX2_makeNext_21 (by decide) ?_
  rw [hW.1]
  refine E_isub dX2_makeNext_22 ?_
  rw [hlen]
  refine E_putI dX2_makeNext_23 fl_X2_48 (by first | assumption | rfl) rfl ?_
  have C1 : CRep (aN a 0 (a.2.2.1 0).dropLast) (sI h 53 5 (nI ((a.2.2.1 0).length - 1))) := C0.wait ⟨by simp [sI, u2], by simp; omega, fun j hj => by simp at hj; have q := hW.2.2 j (by omega); have hj2 : j < (a.2.2.1 0).length := (by omega); simp [sI, u2, q, List.getD, List.getElem?_dropLast, hj, hj2]⟩ rfl (fun y q1 q2 => by funext j; simp [sI, u2, q1]) (fun k hk => by simp [sI, u2, hk])
  refine E_aload_n dX2_makeNext_26 rfl ?_
  refine E_ic 0 dX2_makeNext_27 (by decide) ?_
  refine E_ic 2 dX2_makeNext_28 (by decide) ?_
  refine cV2 (N := mX1_become) dX2_makeNext_29 cn_X1_become lk_X2_76 ⟨Nat.le_of_ble_eq_true rfl, Nat.le_of_ble_eq_true rfl⟩ (by first | assumption | rfl) rfl (Nat.le_of_ble_eq_true rfl) ⟨rfl, rfl⟩ (c_become rfl _ _) (fun v2 h2 ⟨hv2, hh2⟩ => ?_)
  subst hv2 hh2
  have C2 := (C1.setI 9 0 (by decide) (by decide)).setI 10 2 (by decide) (by decide)
  have hw0 : (sI (sI (sI h 53 5 (nI ((a.2.2.1 0).length - 1))) 43 2 0) 43 3 2).1 53 5 = nI ((a.2.2.1 0).length - 1) := by simp [sI, u2]
  have hw1 : (sI (sI (sI h 53 5 (nI ((a.2.2.1 0).length - 1))) 43 2 0) 43 3 2).1 54 ((a.2.2.1 0).length - 1) = nI ((a.2.2.1 0).getD ((a.2.2.1 0).length - 1) 0) := by rw [← hW.2.2 _ (by omega)]; simp [sI, u2]
  refine E_aload_n dX2_makeNext_32 rfl ?_
  refine E_aload_n dX2_makeNext_33 rfl ?_
  refine E_getR dX2_makeNext_34 fl_X2_9 (by first | assumption | rfl) (by assumption) rfl ?_
  refine E_aload_n dX2_makeNext_37 rfl ?_
  refine E_getI dX2_makeNext_38 fl_X2_48 (by first | assumption | rfl) rfl ?_
  rw [hw0]
  refine E_iald dX2_makeNext_41 (by first | assumption | rfl) (vp_in_nI (by omega) (by omega)) ?_
  rw [nI_clamp (by omega), hw1]
  refine E_putI dX2_makeNext_42 fl_X2_82 (by first | assumption | rfl) rfl ?_
  exact E_retv dX2_makeNext_45 rfl (Nat.le_of_ble_eq_true rfl) (Nat.le_of_ble_eq_true rfl) ⟨rfl, rfl, C2.setI 11 _ (by decide) (by decide), CF_sI (CF_sI (CF_sI (CF_sI CF.rf (by decide)) (by decide)) (by decide)) (by decide)⟩
theorem c_rSums {a : Ab} {h : Hp} (C : CRep a h) {B K : Nat} (hw : (a.2.2.1 0).length = 0) (hB : a.1 16 = nI B) (hB0 : 0 < B) (hB2 : B ≤ 64) (hK : (rPick a).1 20 = nI K) (hK2 : K ≤ 100) : Sp0 mX2_makeNext [.ref 53, .ref 43] SH h (fun v h' => v = none ∧ CRep (rSums a B K) h' ∧ CF h h') := by
  have hW := C.2.2.2.1
  have C0 := C
  have q1 : (rPick a).2 = a.2 := rPick_2 a
  have tail : ∀ (h3 : Hp) (lv2 : Option Value), CRep (rPick a) h3 → CF h h3 → E mX2_makeNext none (fun v sh' h' => sh' = SH ∧ v = none ∧ CRep (rSums a B K) h' ∧ CF h h') 77 [some (.ref 53), some (.ref 43), lv2] [] SH h3 0 0 := by
    intro h3 lv2 C3 F3
    have hB' : (rPick a).1 16 = nI B := (rPick_i a (by decide) (by decide) (by decide)).trans hB
    have e1 : (rPick a).1 1 = a.1 1 := rPick_i a (by decide) (by decide) (by decide)
    have htg : tg (rPick a) = tg a := by unfold tg; rw [e1]
    have htF : tF (rPick a) = tF a := by unfold tF; rw [htg, q1]
    rw [rSums, ← htF]
    generalize rPick a = b at C3 hB' hK ⊢
    have go : ∀ (h4 : Hp) (x : Value), CRep (aN b 1 []) h4 → CF h h4 → (x = va_rf ((exF (tF b) (b.1 19)).map (rId (sid (tg b))))) → E mX2_makeNext none (fun v sh' h' => sh' = SH ∧ v = none ∧ CRep (aI (aI (aI (aS (aN (aN b 1 []) 3 [B, K]) 0 (blks B K (fileL (tF b) (b.1 19)))) 9 2) 10 (6 + (4 + nI K) * nI (blks B K (fileL (tF b) (b.1 19))).length)) 11 (b.1 19)) h' ∧ CF h h') 96 [some (.ref 53), some (.ref 43), lv2] [x, .ref 46] SH h4 0 0 := by
      intro h4 x C4 F4 hx
      obtain ⟨B0, K0, -, S4⟩ := C4.2.2.2.2.2.2.2.2.2.2.1
      have r43 : h4.2.2 43 1 = some 46 := C4.2.2.1.2.2.2.2.2.2.2.2.2.2.2.1
      have e16 : h4.1 53 6 = nI B := (C4.1 16 (by decide)).trans hB'
      have e20 : h4.1 53 10 = nI K := (C4.1 20 (by decide)).trans hK
      have fin : ∀ (h5 : Hp), SumsR SH h5 46 (blks B K (fileL (tF b) (b.1 19))) B K → Fr 46 49 h4 h5 → E mX2_makeNext none (fun v sh' h' => sh' = SH ∧ v = none ∧ CRep (aI (aI (aI (aS (aN (aN b 1 []) 3 [B, K]) 0 (blks B K (fileL (tF b) (b.1 19)))) 9 2) 10 (6 + (4 + nI K) * nI (blks B K (fileL (tF b) (b.1 19))).length)) 11 (b.1 19)) h' ∧ CF h h') 107 [some (.ref 53), some (.ref 43), lv2] [] SH h5 0 0 := by
        intro h5 S5 G5
        have C5 := C4.sums (j := 0) (by decide) S5 G5
        have F5 := CF_fr F4 G5 (by decide)
        have g20 : h5.1 53 10 = nI K := (C5.1 20 (by decide)).trans hK
        have r43' : h5.2.2 43 1 = some 46 := C5.2.2.1.2.2.2.2.2.2.2.2.2.2.2.1
        refine E_aload_n dX2_makeNext_107 rfl ?_
        refine E_ic 2 dX2_makeNext_108 (by decide) ?_
        refine E_bi 6 dX2_makeNext_109 (by decide) ?_
        refine E_ic 4 dX2_makeNext_111 (by decide) ?_
        refine E_aload_n dX2_makeNext_112 rfl ?_
        refine E_getI dX2_makeNext_113 fl_X2_85 (by first | assumption | rfl) rfl ?_
        rw [g20]
        refine E_iadd dX2_makeNext_116 ?_
        refine E_aload_n dX2_makeNext_117 rfl ?_
        refine E_getR dX2_makeNext_118 fl_X2_91 (by first | assumption | rfl) (by assumption) rfl ?_
        refine cV0 (N := mX7_count) dX2_makeNext_121 cn_X7_count lk_X2_107 ⟨Nat.le_of_ble_eq_true rfl, Nat.le_of_ble_eq_true rfl⟩ (by first | assumption | rfl) rfl (Nat.le_of_ble_eq_true rfl) ⟨rfl, rfl⟩ (c_Sums_count rfl) (fun v6 h6 ⟨hv6, hh6⟩ => ?_)
        rw [hv6, hh6, S5.2.2.2.2.2.1]
        refine E_imul dX2_makeNext_124 ?_
        refine E_iadd dX2_makeNext_125 ?_
        refine cV2 (N := mX1_become) dX2_makeNext_126 cn_X1_become lk_X2_76 ⟨Nat.le_of_ble_eq_true rfl, Nat.le_of_ble_eq_true rfl⟩ (by first | assumption | rfl) rfl (Nat.le_of_ble_eq_true rfl) ⟨rfl, rfl⟩ (c_become rfl _ _) (fun v2 h2 ⟨hv2, hh2⟩ => ?_)
        subst hv2 hh2
        have C7 := (C5.setI 9 2 (by decide) (by decide)).setI 10 (6 + (4 + nI K) * nI (blks B K (fileL (tF b) (b.1 19))).length) (by decide) (by decide)
        refine E_aload_n dX2_makeNext_129 rfl ?_
        refine E_aload_n dX2_makeNext_130 rfl ?_
        refine E_getI dX2_makeNext_131 fl_X2_31 (by first | assumption | rfl) rfl ?_
        rw [show (sI (sI h5 43 2 2) 43 3 (6 + (4 + nI K) * nI (blks B K (fileL (tF b) (b.1 19))).length)).1 53 9 = b.1 19 from C7.1 19 (by decide)]
        refine E_putI dX2_makeNext_134 fl_X2_82 (by first | assumption | rfl) rfl ?_
        exact E_retv dX2_makeNext_137 rfl (Nat.le_of_ble_eq_true rfl) (Nat.le_of_ble_eq_true rfl) ⟨rfl, rfl, C7.setI 11 _ (by decide) (by decide), CF_sI (CF_sI (CF_sI F5 (by decide)) (by decide)) (by decide)⟩
      have S := C4.side (tg b) (tg_lt b)
      have hs := sid_in (tg b)
      cases hq : exF (tF b) (b.1 19) with
      | none =>
        rw [hq] at hx
        subst hx
        have hnil : fileL (tF b) (b.1 19) = [] := by rw [fileL, hq]
        rw [hnil] at fin ⊢
        have hb : blks B K [] = [] := by simp [blks]
        rw [hb] at fin ⊢
        refine E_aload_n dX2_makeNext_96 rfl ?_
        refine E_getI dX2_makeNext_97 fl_X2_39 (by first | assumption | rfl) rfl ?_
        refine E_aload_n dX2_makeNext_100 rfl ?_
        refine E_getI dX2_makeNext_101 fl_X2_85 (by first | assumption | rfl) rfl ?_
        rw [e16, e20]
        refine cV3 (N := mX7_fill) dX2_makeNext_104 cn_X7_fill lk_X2_101 ⟨Nat.le_of_ble_eq_true rfl, Nat.le_of_ble_eq_true rfl⟩ (by first | assumption | rfl) rfl (Nat.le_of_ble_eq_true rfl) ⟨rfl, rfl⟩ (c_fillN S4) (fun v5 h5 ⟨hv5, S5, G5⟩ => ?_)
        rw [hv5]
        exact fin h5 S5 G5
      | some f =>
        rw [hq] at hx
        subst hx
        obtain ⟨hf, hxf, xs, hxs⟩ := exF_some hq
        have R := S.1.2.1 f hf
        have hO : ∀ x ∈ xs, x < 256 := S.1.2.2.2 f xs hxs
        have hfl : fileL (tF b) (b.1 19) = xs := by simp only [fileL, hq, hxs]; rfl
        rw [hfl] at fin ⊢
        rw [show (aN b 1 []).2.2.2.1 (tg b) f = some xs from hxs] at R
        have hne : ∀ z, 46 ≤ z → z < 46 + 3 → z ≠ rId (sid (tg b)) f ∧ z ≠ cId (sid (tg b)) f := by intro z q1 q2; unfold rId cId; omega
        refine E_aload_n dX2_makeNext_96 rfl ?_
        refine E_getI dX2_makeNext_97 fl_X2_39 (by first | assumption | rfl) rfl ?_
        refine E_aload_n dX2_makeNext_100 rfl ?_
        refine E_getI dX2_makeNext_101 fl_X2_85 (by first | assumption | rfl) rfl ?_
        rw [e16, e20]
        refine cV3 (N := mX7_fill) dX2_makeNext_104 cn_X7_fill lk_X2_101 ⟨Nat.le_of_ble_eq_true rfl, Nat.le_of_ble_eq_true rfl⟩ (by first | assumption | rfl) rfl (Nat.le_of_ble_eq_true rfl) ⟨rfl, rfl⟩ (c_fill S4 R hO hB0 hB2 hK2 hne) (fun v5 h5 ⟨hv5, S5, G5⟩ => ?_)
        rw [hv5]
        exact fin h5 S5 G5
    refine E_aload_n dX2_makeNext_77 rfl ?_
    refine cV0 (N := mX2_forgetBuilt) dX2_makeNext_78 cn_X2_forgetBuilt lk_X2_54 ⟨Nat.le_of_ble_eq_true rfl, Nat.le_of_ble_eq_true rfl⟩ (by first | assumption | rfl) rfl (Nat.le_of_ble_eq_true rfl) ⟨rfl, rfl⟩ (c_forgetBuilt C3) (fun v4 h4 ⟨hv4, C4, F4⟩ => ?_)
    rw [hv4]
    have r43 : h4.2.2 43 1 = some 46 := C4.2.2.1.2.2.2.2.2.2.2.2.2.2.2.1
    have e19 : h4.1 53 9 = b.1 19 := C4.1 19 (by decide)
    have rT := C4.rT
    have S := C4.side (tg b) (tg_lt b)
    refine E_aload_n dX2_makeNext_81 rfl ?_
    refine E_getR dX2_makeNext_82 fl_X2_91 (by first | assumption | rfl) (by assumption) rfl ?_
    refine E_aload_n dX2_makeNext_85 rfl ?_
    refine E_getR dX2_makeNext_86 fl_X2_35 (by first | assumption | rfl) (by assumption) rfl ?_
    refine E_aload_n dX2_makeNext_89 rfl ?_
    refine E_getI dX2_makeNext_90 fl_X2_31 (by first | assumption | rfl) rfl ?_
    rw [e19]
    refine cV1 (N := mX6_existing) dX2_makeNext_93 cn_X6_existing lk_X2_95 ⟨Nat.le_of_ble_eq_true rfl, Nat.le_of_ble_eq_true rfl⟩ S.1.1.1 rfl (Nat.le_of_ble_eq_true rfl) ⟨rfl, rfl⟩ (c_existing S.1 _) (fun v5 h5 ⟨hv5, hh5⟩ => ?_)
    rw [hv5, hh5]
    exact go h4 _ C4 (F3.tr F4) rfl
  refine Sp0.of (by decide) (Nat.le_of_ble_eq_true rfl) ?_
  show E mX2_makeNext none _ 0 [some (.ref 53), some (.ref 43), none] [] SH h 0 0
  have e17 : h.1 53 7 = a.1 17 := C.1 17 (by decide)
  have e19 : h.1 53 9 = a.1 19 := C.1 19 (by decide)
  refine E_aload_n dX2_makeNext_0 rfl ?_
  refine E_getI dX2_makeNext_1 fl_X2_48 (by first | assumption | rfl) rfl ?_
  rw [hW.1, hw]
  refine E_if_le 46 dX2_makeNext_4 (by decide) (fun c_4 => ?_) (fun c_4 => absurd (by decide) c_4)
  refine E_aload_n dX2_makeNext_46 rfl ?_
  refine cV0 (N := mX2_leastToDo) dX2_makeNext_47 cn_X2_leastToDo lk_X2_72 ⟨Nat.le_of_ble_eq_true rfl, Nat.le_of_ble_eq_true rfl⟩ (by first | assumption | rfl) rfl (Nat.le_of_ble_eq_true rfl) ⟨rfl, rfl⟩ (c_leastToDo C) (fun v2 h2 ⟨hv2, hh2⟩ => ?_)
  rw [hv2, hh2]
  refine E_istore_n dX2_makeNext_50 (by decide) ?_
  refine E_iload_n dX2_makeNext_51 rfl ?_
  refine E_aload_n dX2_makeNext_52 rfl ?_
  refine E_getI dX2_makeNext_53 fl_X2_31 (by first | assumption | rfl) rfl ?_
  rw [e19]
  refine E_icmp_eq 77 dX2_makeNext_56 (by decide) (fun c_56 => ?_) (fun c_56 => ?_)
  · exact tail h _ (by rw [rPick, if_pos c_56]; exact C0) CF.rf
  · refine E_aload_n dX2_makeNext_59 rfl ?_
    refine E_iload_n dX2_makeNext_60 rfl ?_
    refine E_putI dX2_makeNext_61 fl_X2_31 (by first | assumption | rfl) rfl ?_
    refine E_aload_n dX2_makeNext_64 rfl ?_
    refine E_aload_n dX2_makeNext_65 rfl ?_
    refine E_getI dX2_makeNext_66 fl_X2_42 (by first | assumption | rfl) rfl ?_
    rw [show (sI h 53 9 (ltd (a.2.2.2.2.1 0))).1 53 7 = a.1 17 from (C0.setI 19 (ltd (a.2.2.2.2.1 0)) (by decide) (by decide)).1 17 (by decide)]
    refine E_putI dX2_makeNext_69 fl_X2_85 (by first | assumption | rfl) rfl ?_
    refine E_aload_n dX2_makeNext_72 rfl ?_
    refine E_ic 0 dX2_makeNext_73 (by decide) ?_
    refine E_putI dX2_makeNext_74 fl_X2_88 (by first | assumption | rfl) rfl ?_
    exact tail _ _ (by rw [rPick, if_neg c_56]; exact ((C0.setI 19 (ltd (a.2.2.2.2.1 0)) (by decide) (by decide)).setI 20 (a.1 17) (by decide) (by decide)).setI 21 0 (by decide) (by decide)) (CF_sI (CF_sI (CF_sI CF.rf (by decide)) (by decide)) (by decide))
def clrB (T : Nat → Bool) (i : Nat) : Nat → Bool := fun g => if g < i then false else T g
theorem clrB_step (T : Nat → Bool) (i : Nat) : va_up (clrB T i) i false = clrB T (i + 1) := by
  funext g
  by_cases q : g = i
  · subst q; simp [va_up, clrB]
  · have q2 : (g < i + 1) ↔ (g < i) := by omega
    simp [va_up, clrB, q, q2]
theorem aB2_step (a : Ab) (T D T2 D2 : Nat → Bool) : aB (aB (aB (aB a 0 T) 1 D) 0 T2) 1 D2 = aB (aB a 0 T2) 1 D2 := by
  simp only [aB]
  congr 5
  funext j
  simp only [va_up]
  split
  · rfl
  · split
    · rfl
    · rfl
theorem aB_self (a : Ab) (k : Nat) : aB a k (a.2.2.2.2.1 k) = a := by
  simp only [aB]
  congr 5
  funext j
  simp [va_up]
  intro e
  rw [e]
def rClear (a1 : Ab) : Ab := aI (aI (aI (aI (aI (aI (aN (aN (aB (aB a1 0 (clrB (a1.2.2.2.2.1 0) 8)) 1 (clrB (a1.2.2.2.2.1 1) 8)) 0 [1]) 1 []) 19 (-2)) 22 0) 23 0) 24 0) 25 0) 26 0
def rStartA (a : Ab) (B K rule : Int32) : Ab := rClear (aI (aI (aI a 16 B) 17 K) 18 rule)
theorem rStart_tail {b : Ab} {h h3 : Hp} {x : Nat} {B K rule : Int32} (C3 : CRep b h3) (F3 : CF h h3) : E mX2_start none (fun v sh' h' => sh' = SH ∧ v = none ∧ CRep (aI (aI (aI (aI (aI (aI (aN (aN b 0 [1]) 1 []) 19 (-2)) 22 0) 23 0) 24 0) 25 0) 26 0) h' ∧ CF h h') 53 [some (.ref 53), some (.ref x), some (.int B), some (.int K), some (.int rule), some (.int 8)] [] SH h3 0 0 := by
  refine E_aload_n dX2_start_53 rfl ?_
  refine E_ic 0 dX2_start_54 (by decide) ?_
  refine E_putI dX2_start_55 fl_X2_48 rfl rfl ?_
  have C4 : CRep (aN b 0 []) (sI h3 53 5 0) := C3.wait ⟨by simp [sI, u2, nI], by simp, fun j hj => by simp at hj⟩ rfl (fun y q1 q2 => by funext j; simp [sI, u2, q1]) (fun k hk => by simp [sI, u2, hk])
  have F4 : CF h (sI h3 53 5 0) := CF_sI F3 (by decide)
  refine E_aload_n dX2_start_58 rfl ?_
  refine E_ic 1 dX2_start_59 (by decide) ?_
  rw [show (1 : Int32) = nI 1 by decide]
  refine cV1 (N := mX2_putToWait) dX2_start_60 cn_X2_putToWait lk_X2_51 ⟨Nat.le_of_ble_eq_true rfl, Nat.le_of_ble_eq_true rfl⟩ rfl rfl (Nat.le_of_ble_eq_true rfl) ⟨rfl, rfl⟩ (c_putToWait C4 (by rw [aN_at]; decide)) (fun v5 h5 ⟨hv5, C5, F5⟩ => ?_)
  rw [hv5]
  rw [aN_aN, aN_at] at C5
  refine E_aload_n dX2_start_63 rfl ?_
  refine cV0 (N := mX2_forgetBuilt) dX2_start_64 cn_X2_forgetBuilt lk_X2_54 ⟨Nat.le_of_ble_eq_true rfl, Nat.le_of_ble_eq_true rfl⟩ rfl rfl (Nat.le_of_ble_eq_true rfl) ⟨rfl, rfl⟩ (c_forgetBuilt C5) (fun v6 h6 ⟨hv6, C6, F6⟩ => ?_)
  rw [hv6]
  refine E_aload_n dX2_start_67 rfl ?_
  refine E_bi (-2) dX2_start_68 (by decide) ?_
  refine E_putI dX2_start_70 fl_X2_31 rfl rfl ?_
  have C7 := C6.setI 19 (-2) (by decide) (by decide)
  have F7 : CF h (sI h6 53 9 (-2)) := CF_sI ((F4.tr F5).tr F6) (by decide)
  refine E_aload_n dX2_start_73 rfl ?_
  refine E_ic 0 dX2_start_74 (by decide) ?_
  refine E_putI dX2_start_75 fl_X2_57 rfl rfl ?_
  have C8 := C7.setI 22 0 (by decide) (by decide)
  have F8 := CF_sI (b := 53) (k := 12) (x := 0) F7 (by decide)
  refine E_aload_n dX2_start_78 rfl ?_
  refine E_ic 0 dX2_start_79 (by decide) ?_
  refine E_putI dX2_start_80 fl_X2_60 rfl rfl ?_
  have C9 := C8.setI 23 0 (by decide) (by decide)
  have F9 := CF_sI (b := 53) (k := 13) (x := 0) F8 (by decide)
  refine E_aload_n dX2_start_83 rfl ?_
  refine E_ic 0 dX2_start_84 (by decide) ?_
  refine E_putI dX2_start_85 fl_X2_63 rfl rfl ?_
  have C10 := C9.setI 24 0 (by decide) (by decide)
  have F10 := CF_sI (b := 53) (k := 14) (x := 0) F9 (by decide)
  refine E_aload_n dX2_start_88 rfl ?_
  refine E_ic 0 dX2_start_89 (by decide) ?_
  refine E_putI dX2_start_90 fl_X2_66 rfl rfl ?_
  have C11 := C10.setI 25 0 (by decide) (by decide)
  have F11 := CF_sI (b := 53) (k := 15) (x := 0) F10 (by decide)
  refine E_aload_n dX2_start_93 rfl ?_
  refine E_ic 0 dX2_start_94 (by decide) ?_
  refine E_putI dX2_start_95 fl_X2_69 rfl rfl ?_
  have C12 := C11.setI 26 0 (by decide) (by decide)
  have F12 := CF_sI (b := 53) (k := 16) (x := 0) F11 (by decide)
  refine E_retv dX2_start_98 rfl (Nat.le_of_ble_eq_true rfl) (Nat.le_of_ble_eq_true rfl) ?_
  exact ⟨rfl, rfl, C12, F12⟩
theorem clrB_0 (T : Nat → Bool) : clrB T 0 = T := by
  funext g
  simp [clrB]
theorem rStart_loop {a1 : Ab} {h : Hp} {x : Nat} {B K rule : Int32} : ∀ (n i : Nat) (h3 : Hp), 8 - i ≤ n → i ≤ 8 → CRep (aB (aB a1 0 (clrB (a1.2.2.2.2.1 0) i)) 1 (clrB (a1.2.2.2.2.1 1) i)) h3 → CF h h3 → E mX2_start none (fun v sh' h' => sh' = SH ∧ v = none ∧ CRep (rClear a1) h' ∧ CF h h') 24 [some (.ref 53), some (.ref x), some (.int B), some (.int K), some (.int rule), some (.int (nI i))] [] SH h3 0 0 := by
  intro n
  induction n with
  | zero =>
    intro i h3 q1 q2 C3 F3
    have e : i = 8 := by omega
    subst e
    refine E_iload dX2_start_24 rfl ?_
    refine E_bi 8 dX2_start_26 (by decide) ?_
    refine E_icmp_ge 53 dX2_start_28 (by decide) (fun c_28 => ?_) (fun c_28 => absurd (by decide) c_28)
    exact rStart_tail C3 F3
  | succ n ih =>
    intro i h3 q1 q2 C3 F3
    by_cases e : i = 8
    · subst e
      refine E_iload dX2_start_24 rfl ?_
      refine E_bi 8 dX2_start_26 (by decide) ?_
      refine E_icmp_ge 53 dX2_start_28 (by decide) (fun c_28 => ?_) (fun c_28 => absurd (by decide) c_28)
      exact rStart_tail C3 F3
    · have r55 : h3.2.2 53 1 = some 55 := C3.2.2.1.2.2.2.2.2.2.2.2.2.2.2.2.2.2.2.1
      have r56 : h3.2.2 53 2 = some 56 := C3.2.2.1.2.2.2.2.2.2.2.2.2.2.2.2.2.2.2.2.1
      refine E_iload dX2_start_24 rfl ?_
      refine E_bi 8 dX2_start_26 (by decide) ?_
      rw [show (8 : Int32) = nI 8 by decide]
      refine E_icmp_ge 53 dX2_start_28 (by decide) (fun c_28 => absurd c_28 (nI_ge (by omega) (by omega))) (fun c_28 => ?_)
      refine E_aload_n dX2_start_31 rfl ?_
      refine E_getR dX2_start_32 fl_X2_15 rfl r55 rfl ?_
      refine E_iload dX2_start_35 rfl ?_
      refine E_ic 0 dX2_start_37 (by decide) ?_
      refine E_zast dX2_start_38 rfl (vp_in_nI (by omega) (by omega)) ?_
      rw [nI_clamp (by omega)]
      have C4 := C3.flag (j := 0) (f := i) (by decide) (by omega) false
      refine E_aload_n dX2_start_39 rfl ?_
      refine E_getR dX2_start_40 fl_X2_19 rfl r56 rfl ?_
      refine E_iload dX2_start_43 rfl ?_
      refine E_ic 0 dX2_start_45 (by decide) ?_
      refine E_zast dX2_start_46 rfl (vp_in_nI (by omega) (by omega)) ?_
      refine E_iinc dX2_start_47 rfl (by decide) ?_
      rw [nI_clamp (by omega)]
      have C5 := C4.flag (j := 1) (f := i) (by decide) (by omega) false
      refine E_goto 24 dX2_start_50 (by decide) ?_
      rw [nI_inc]
      rw [aB2_step] at C5
      refine ih (i + 1) _ (by omega) (by omega) ?_ (CF_sI (CF_sI F3 (by decide)) (by decide))
      rw [← clrB_step, ← clrB_step]
      exact C5
theorem c_rStart {a : Ab} {h : Hp} (x : Nat) (hx : x < SH.length) (C : CRep a (sR h 53 4 (some x))) (B K rule : Int32) : Sp0 mX2_start [.ref 53, .ref x, .int B, .int K, .int rule] SH h (fun v h' => v = none ∧ CRep (rStartA a B K rule) h' ∧ CF h h') := by
  have F0 : CF h (sR h 53 4 (some x)) := by
    intro y q
    refine ⟨rfl, rfl, ?_⟩
    funext j
    have : y ≠ 53 := by omega
    simp [sR, u2, this]
  have Ca := C.setI 16 B (by decide) (by decide)
  have Fa := CF_sI (b := 53) (k := 6) (x := B) F0 (by decide)
  have Cb := Ca.setI 17 K (by decide) (by decide)
  have Fb := CF_sI (b := 53) (k := 7) (x := K) Fa (by decide)
  have C1 := Cb.setI 18 rule (by decide) (by decide)
  have F1 := CF_sI (b := 53) (k := 8) (x := rule) Fb (by decide)
  refine Sp0.of (by decide) (Nat.le_of_ble_eq_true rfl) ?_
  show E mX2_start none (fun v sh' h' => sh' = SH ∧ v = none ∧ CRep (rClear (aI (aI (aI a 16 B) 17 K) 18 rule)) h' ∧ CF h h') 0 [some (.ref 53), some (.ref x), some (.int B), some (.int K), some (.int rule), none] [] SH h 0 0
  refine E_aload_n dX2_start_0 rfl ?_
  refine E_aload_n dX2_start_1 rfl ?_
  refine E_putR dX2_start_2 fl_X2_35 rfl rfl hx ?_
  refine E_aload_n dX2_start_5 rfl ?_
  refine E_iload_n dX2_start_6 rfl ?_
  refine E_putI dX2_start_7 fl_X2_39 rfl rfl ?_
  refine E_aload_n dX2_start_10 rfl ?_
  refine E_iload_n dX2_start_11 rfl ?_
  refine E_putI dX2_start_12 fl_X2_42 rfl rfl ?_
  refine E_aload_n dX2_start_15 rfl ?_
  refine E_iload dX2_start_16 rfl ?_
  refine E_putI dX2_start_18 fl_X2_45 rfl rfl ?_
  refine E_ic 0 dX2_start_21 (by decide) ?_
  refine E_istore dX2_start_22 (by decide) ?_
  exact rStart_loop 8 0 _ (by omega) (by omega) (by rw [clrB_0, clrB_0, aB_self, aB_self]; exact C1) F1
theorem c_sStart {h : Hp} (x : Nat) (hx : x < SH.length) : Sp0 mX5_start [.ref 49, .ref x] SH h (fun v h' => v = none ∧ h' = sI (sI (sR h 49 1 (some x)) 49 4 0) 49 5 0) := by
  refine Sp0.of (by decide) (Nat.le_of_ble_eq_true rfl) ?_
  show E mX5_start none _ 0 [some (.ref 49), some (.ref x)] [] SH h 0 0
  refine E_aload_n dX5_start_0 rfl ?_
  refine E_aload_n dX5_start_1 rfl ?_
  refine E_putR dX5_start_2 fl_X5_18 rfl rfl hx ?_
  refine E_aload_n dX5_start_5 rfl ?_
  refine E_ic 0 dX5_start_6 (by decide) ?_
  refine E_putI dX5_start_7 fl_X5_22 rfl rfl ?_
  refine E_aload_n dX5_start_10 rfl ?_
  refine E_ic 0 dX5_start_11 (by decide) ?_
  refine E_putI dX5_start_12 fl_X5_26 rfl rfl ?_
  exact E_retv dX5_start_15 rfl (Nat.le_of_ble_eq_true rfl) (Nat.le_of_ble_eq_true rfl) ⟨rfl, rfl, rfl⟩
end
section
/-! RollingSync$Sender -/
def lkW (xs : List Nat) (p B : Nat) : Int64 := lN (wk B (fun j => xs.getD (p + j) 0))
def lkM (a : Ab) (xs : List Nat) (p B : Nat) : Bool := decide (p + B ≤ xs.length) && (a.2.2.2.2.2 1).any (fun q => decide (q.1 = lkW xs p B))
def lkF (a : Ab) (xs : List Nat) (p B K : Nat) : Int32 := findB (a.2.2.2.2.2 1) (lkW xs p B) (strongF (dig ((xs.drop p).take B)) K)
def lookR (a : Ab) (xs : List Nat) (p B K : Nat) : Int32 := if lkM a xs p B then lkF a xs p B K else -2
def lookS (a : Ab) (xs : List Nat) (p B K : Nat) : Ab := if lkM a xs p B then (if lkF a xs p B K = -2 then aI (aI a 14 (a.1 14 + 1)) 15 (a.1 15 + 1) else aI a 14 (a.1 14 + 1)) else a
theorem c_look {a : Ab} {h : Hp} (C : CRep a h) {r c p B K : Nat} {xs : List Nat} (R : RowL SH h r c 500 xs) (hX : ∀ x ∈ xs, x < 256) (hBK : a.2.2.1 4 = [B, K]) (hB2 : B ≤ 64) (hK2 : K ≤ 100) (hp : a.1 13 = nI p) (hp2 : p ≤ 600) (nr : r ≠ 49) (nc : c ≠ 49) : Sp0 mX5_look [.ref 49, .ref r] SH h (fun v h' => v = some (.int (lookR a xs p B K)) ∧ CRep (lookS a xs p B K) h' ∧ CF h h' ∧ RowL SH h' r c 500 xs ∧ h'.2.2 = h.2.2) := by
  have e13 : h.1 49 3 = a.1 13 := C.1 13 (by decide)
  have e14 : h.1 49 4 = a.1 14 := C.1 14 (by decide)
  have e15 : h.1 49 5 = a.1 15 := C.1 15 (by decide)
  rw [hp] at e13
  have r50 : h.2.2 49 0 = some 50 := C.2.2.1.2.2.2.2.2.2.2.2.2.2.2.2.1
  obtain ⟨B0, K0, hBK0, S⟩ := C.2.2.2.2.2.2.2.2.2.2.2
  rw [hBK] at hBK0
  cases hBK0
  have b3 := S.2.2.2.2.2.2.2.1
  have b4 := S.2.2.2.2.2.2.2.2.1
  have hs := R.1
  have hm : xs.length ≤ 500 := R.2.2.2.2.1
  refine Sp0.of (by decide) (Nat.le_of_ble_eq_true rfl) ?_
  show E mX5_look none _ 0 [some (.ref 49), some (.ref r), none, none, none, none] [] SH h 0 0
  by_cases h1 : p + B ≤ xs.length
  · cases hAny : (a.2.2.2.2.2 1).any (fun q => decide (q.1 = lkW xs p B)) with
    | false =>
      have hM : lkM a xs p B = false := by rw [lkM, hAny]; simp
      refine E_aload_n dX5_look_0 rfl ?_
      refine E_getR dX5_look_1 fl_X5_12 rfl r50 rfl ?_
      refine cV0 (N := mX7_block) dX5_look_4 cn_X7_block lk_X5_85 ⟨Nat.le_of_ble_eq_true rfl, Nat.le_of_ble_eq_true rfl⟩ rfl rfl (Nat.le_of_ble_eq_true rfl) ⟨rfl, rfl⟩ (c_Sums_block rfl) (fun v2 h2 ⟨hv2, hh2⟩ => ?_)
      rw [hv2, hh2, b3]
      refine E_istore_n dX5_look_7 (by decide) ?_
      refine E_aload_n dX5_look_8 rfl ?_
      refine E_aload_n dX5_look_9 rfl ?_
      refine E_getI dX5_look_10 fl_X5_36 rfl rfl ?_
      refine E_iload_n dX5_look_13 rfl ?_
      rw [e13]
      refine cV2 (N := mX3_holds) dX5_look_14 cn_X3_holds lk_X5_103 ⟨Nat.le_of_ble_eq_true rfl, Nat.le_of_ble_eq_true rfl⟩ hs rfl (Nat.le_of_ble_eq_true rfl) ⟨rfl, rfl⟩ (c_Row_holds R _ _) (fun v3 h3 ⟨hv3, hh3⟩ => ?_)
      rw [hv3, hh3, if_pos (by rw [nI_toInt (by omega), nI_toInt (by omega)]; omega)]
      refine E_if_ne 23 dX5_look_17 (by decide) (fun c_17 => ?_) (fun c_17 => absurd c_17 (by decide))
      refine E_aload_n dX5_look_23 rfl ?_
      refine E_aload_n dX5_look_24 rfl ?_
      refine E_getI dX5_look_25 fl_X5_36 rfl rfl ?_
      refine E_iload_n dX5_look_28 rfl ?_
      rw [e13]
      refine cV2 (N := mX3_weakOf) dX5_look_29 cn_X3_weakOf lk_X5_107 ⟨Nat.le_of_ble_eq_true rfl, Nat.le_of_ble_eq_true rfl⟩ hs rfl (Nat.le_of_ble_eq_true rfl) ⟨rfl, rfl⟩ (c_Row_weakOf R hX hB2 h1) (fun v4 h4 ⟨hv4, hh4⟩ => ?_)
      rw [hv4, hh4]
      refine E_lstore_n dX5_look_32 (by decide) ?_
      refine E_aload_n dX5_look_33 rfl ?_
      refine E_getR dX5_look_34 fl_X5_12 rfl r50 rfl ?_
      refine E_lload_n dX5_look_37 rfl ?_
      refine cV1 (N := mX7_hasWeak) dX5_look_38 cn_X7_hasWeak lk_X5_110 ⟨Nat.le_of_ble_eq_true rfl, Nat.le_of_ble_eq_true rfl⟩ rfl rfl (Nat.le_of_ble_eq_true rfl) ⟨rfl, rfl⟩ (c_hasWeak S _) (fun v5 h5 ⟨hv5, hh5⟩ => ?_)
      rw [hv5, hh5, show (a.2.2.2.2.2 1).any (fun q => decide (q.1 = lN (wk B fun j => xs.getD (p + j) 0))) = false from hAny]
      refine E_if_ne 47 dX5_look_41 (by decide) (fun c_41 => absurd (by decide) c_41) (fun c_41 => ?_)
      refine E_bi (-2) dX5_look_44 (by decide) ?_
      exact E_reti dX5_look_46 rfl rfl (Nat.le_of_ble_eq_true rfl) (Nat.le_of_ble_eq_true rfl) ⟨rfl, by rw [lookR, hM]; rfl, by rw [lookS, hM]; exact C, CF.rf, R, rfl⟩
    | true =>
      have hM : lkM a xs p B = true := by rw [lkM, hAny]; simp [h1]
      have C1 : CRep (aI a 14 (a.1 14 + 1)) (sI h 49 4 (a.1 14 + 1)) := C.setI 14 (a.1 14 + 1) (by decide) (by decide)
      have F1 : CF h (sI h 49 4 (a.1 14 + 1)) := CF_sI CF.rf (by decide)
      have R1 : RowL SH (sI h 49 4 (a.1 14 + 1)) r c 500 xs := R.keep (by funext j; simp [sI, u2, nr]) (by funext j; simp [sI, u2, nc]) rfl
      obtain ⟨B1, K1, hBK1, S1⟩ := C1.2.2.2.2.2.2.2.2.2.2.2
      rw [show (aI a 14 (a.1 14 + 1)).2.2.1 4 = a.2.2.1 4 from rfl, hBK] at hBK1
      cases hBK1
      have g13 : (sI h 49 4 (a.1 14 + 1)).1 49 3 = nI p := (C1.1 13 (by decide)).trans hp
      have g15 : (sI h 49 4 (a.1 14 + 1)).1 49 5 = a.1 15 := C1.1 15 (by decide)
      have g4 : (sI h 49 4 (a.1 14 + 1)).1 50 4 = nI K := S1.2.2.2.2.2.2.2.2.1
      refine E_aload_n dX5_look_0 rfl ?_
      refine E_getR dX5_look_1 fl_X5_12 rfl r50 rfl ?_
      refine cV0 (N := mX7_block) dX5_look_4 cn_X7_block lk_X5_85 ⟨Nat.le_of_ble_eq_true rfl, Nat.le_of_ble_eq_true rfl⟩ rfl rfl (Nat.le_of_ble_eq_true rfl) ⟨rfl, rfl⟩ (c_Sums_block rfl) (fun v2 h2 ⟨hv2, hh2⟩ => ?_)
      rw [hv2, hh2, b3]
      refine E_istore_n dX5_look_7 (by decide) ?_
      refine E_aload_n dX5_look_8 rfl ?_
      refine E_aload_n dX5_look_9 rfl ?_
      refine E_getI dX5_look_10 fl_X5_36 rfl rfl ?_
      refine E_iload_n dX5_look_13 rfl ?_
      rw [e13]
      refine cV2 (N := mX3_holds) dX5_look_14 cn_X3_holds lk_X5_103 ⟨Nat.le_of_ble_eq_true rfl, Nat.le_of_ble_eq_true rfl⟩ hs rfl (Nat.le_of_ble_eq_true rfl) ⟨rfl, rfl⟩ (c_Row_holds R _ _) (fun v3 h3 ⟨hv3, hh3⟩ => ?_)
      rw [hv3, hh3, if_pos (by rw [nI_toInt (by omega), nI_toInt (by omega)]; omega)]
      refine E_if_ne 23 dX5_look_17 (by decide) (fun c_17 => ?_) (fun c_17 => absurd c_17 (by decide))
      refine E_aload_n dX5_look_23 rfl ?_
      refine E_aload_n dX5_look_24 rfl ?_
      refine E_getI dX5_look_25 fl_X5_36 rfl rfl ?_
      refine E_iload_n dX5_look_28 rfl ?_
      rw [e13]
      refine cV2 (N := mX3_weakOf) dX5_look_29 cn_X3_weakOf lk_X5_107 ⟨Nat.le_of_ble_eq_true rfl, Nat.le_of_ble_eq_true rfl⟩ hs rfl (Nat.le_of_ble_eq_true rfl) ⟨rfl, rfl⟩ (c_Row_weakOf R hX hB2 h1) (fun v4 h4 ⟨hv4, hh4⟩ => ?_)
      rw [hv4, hh4]
      refine E_lstore_n dX5_look_32 (by decide) ?_
      refine E_aload_n dX5_look_33 rfl ?_
      refine E_getR dX5_look_34 fl_X5_12 rfl r50 rfl ?_
      refine E_lload_n dX5_look_37 rfl ?_
      refine cV1 (N := mX7_hasWeak) dX5_look_38 cn_X7_hasWeak lk_X5_110 ⟨Nat.le_of_ble_eq_true rfl, Nat.le_of_ble_eq_true rfl⟩ rfl rfl (Nat.le_of_ble_eq_true rfl) ⟨rfl, rfl⟩ (c_hasWeak S _) (fun v5 h5 ⟨hv5, hh5⟩ => ?_)
      rw [hv5, hh5, show (a.2.2.2.2.2 1).any (fun q => decide (q.1 = lN (wk B fun j => xs.getD (p + j) 0))) = true from hAny]
      refine E_if_ne 47 dX5_look_41 (by decide) (fun c_41 => ?_) (fun c_41 => absurd c_41 (by decide))
      refine E_aload_n dX5_look_47 rfl ?_
      refine E_dup rfl dX5_look_48 ?_
      refine E_getI dX5_look_49 fl_X5_22 rfl rfl ?_
      refine E_ic 1 dX5_look_52 (by decide) ?_
      rw [e14]
      refine E_iadd dX5_look_53 ?_
      refine E_putI dX5_look_54 fl_X5_22 rfl rfl ?_
      refine E_aload_n dX5_look_57 rfl ?_
      refine E_getR dX5_look_58 fl_X5_12 rfl r50 rfl ?_
      refine E_lload_n dX5_look_61 rfl ?_
      refine E_aload_n dX5_look_62 rfl ?_
      refine E_aload_n dX5_look_63 rfl ?_
      refine E_getI dX5_look_64 fl_X5_36 rfl rfl ?_
      refine E_iload_n dX5_look_67 rfl ?_
      rw [g13]
      refine cV2 (N := mX3_digestOf) dX5_look_68 cn_X3_digestOf lk_X5_73 ⟨Nat.le_of_ble_eq_true rfl, Nat.le_of_ble_eq_true rfl⟩ hs rfl (Nat.le_of_ble_eq_true rfl) ⟨rfl, rfl⟩ (c_Row_digestOf R1 (by omega) (by omega)) (fun v6 h6 ⟨hv6, hh6⟩ => ?_)
      rw [hv6, hh6]
      refine E_aload_n dX5_look_71 rfl ?_
      refine E_getR dX5_look_72 fl_X5_12 rfl r50 rfl ?_
      refine cV0 (N := mX7_k) dX5_look_75 cn_X7_k lk_X5_114 ⟨Nat.le_of_ble_eq_true rfl, Nat.le_of_ble_eq_true rfl⟩ rfl rfl (Nat.le_of_ble_eq_true rfl) ⟨rfl, rfl⟩ (c_Sums_k rfl) (fun v7 h7 ⟨hv7, hh7⟩ => ?_)
      rw [hv7, hh7, g4]
      refine cS2 (N := mX8_strong) dX5_look_78 cn_X8_strong lk_X5_117 ⟨Nat.le_of_ble_eq_true rfl, Nat.le_of_ble_eq_true rfl⟩ (Nat.le_of_ble_eq_true rfl) ⟨rfl, rfl⟩ (c_strong _ hK2) (fun v8 h8 ⟨hv8, hh8⟩ => ?_)
      rw [hv8, hh8]
      refine cV2 (N := mX7_find) dX5_look_81 cn_X7_find lk_X5_121 ⟨Nat.le_of_ble_eq_true rfl, Nat.le_of_ble_eq_true rfl⟩ rfl rfl (Nat.le_of_ble_eq_true rfl) ⟨rfl, rfl⟩ (c_find S1 _ _) (fun v9 h9 ⟨hv9, hh9⟩ => ?_)
      rw [hv9, hh9]
      refine E_istore dX5_look_84 (by decide) ?_
      have hF : findB (a.2.2.2.2.2 1) (lN (wk B fun j => xs.getD (p + j) 0)) (strongF (dig (List.take B (List.drop p xs))) K) = lkF a xs p B K := rfl
      refine E_iload dX5_look_86 rfl ?_
      refine E_bi (-2) dX5_look_88 (by decide) ?_
      refine E_icmp_ne 103 dX5_look_90 (by decide) (fun c_90 => ?_) (fun c_90 => ?_)
      · refine E_iload dX5_look_103 rfl ?_
        exact E_reti dX5_look_105 rfl rfl (Nat.le_of_ble_eq_true rfl) (Nat.le_of_ble_eq_true rfl) ⟨rfl, by rw [lookR, hM]; rfl, by rw [lookS, hM, if_pos rfl, if_neg (show ¬ lkF a xs p B K = -2 from c_90)]; exact C1, F1, R1, rfl⟩
      · refine E_aload_n dX5_look_93 rfl ?_
        refine E_dup rfl dX5_look_94 ?_
        refine E_getI dX5_look_95 fl_X5_26 rfl rfl ?_
        rw [g15]
        refine E_ic 1 dX5_look_98 (by decide) ?_
        refine E_iadd dX5_look_99 ?_
        refine E_putI dX5_look_100 fl_X5_26 rfl rfl ?_
        refine E_iload dX5_look_103 rfl ?_
        have C2 := C1.setI 15 (a.1 15 + 1) (by decide) (by decide)
        exact E_reti dX5_look_105 rfl rfl (Nat.le_of_ble_eq_true rfl) (Nat.le_of_ble_eq_true rfl) ⟨rfl, by rw [lookR, hM]; rfl, by rw [lookS, hM, if_pos rfl, if_pos (show lkF a xs p B K = -2 from c_90)]; exact C2, CF_sI F1 (by decide), R1.keep (by funext j; simp [sI, u2, nr]) (by funext j; simp [sI, u2, nc]) rfl, rfl⟩
  · have hM : lkM a xs p B = false := by rw [lkM]; simp [h1]
    refine E_aload_n dX5_look_0 rfl ?_
    refine E_getR dX5_look_1 fl_X5_12 rfl r50 rfl ?_
    refine cV0 (N := mX7_block) dX5_look_4 cn_X7_block lk_X5_85 ⟨Nat.le_of_ble_eq_true rfl, Nat.le_of_ble_eq_true rfl⟩ rfl rfl (Nat.le_of_ble_eq_true rfl) ⟨rfl, rfl⟩ (c_Sums_block rfl) (fun v2 h2 ⟨hv2, hh2⟩ => ?_)
    rw [hv2, hh2, b3]
    refine E_istore_n dX5_look_7 (by decide) ?_
    refine E_aload_n dX5_look_8 rfl ?_
    refine E_aload_n dX5_look_9 rfl ?_
    refine E_getI dX5_look_10 fl_X5_36 rfl rfl ?_
    refine E_iload_n dX5_look_13 rfl ?_
    rw [e13]
    refine cV2 (N := mX3_holds) dX5_look_14 cn_X3_holds lk_X5_103 ⟨Nat.le_of_ble_eq_true rfl, Nat.le_of_ble_eq_true rfl⟩ hs rfl (Nat.le_of_ble_eq_true rfl) ⟨rfl, rfl⟩ (c_Row_holds R _ _) (fun v3 h3 ⟨hv3, hh3⟩ => ?_)
    rw [hv3, hh3, if_neg (by rw [nI_toInt (by omega), nI_toInt (by omega)]; omega)]
    refine E_if_ne 23 dX5_look_17 (by decide) (fun c_17 => absurd rfl c_17) (fun c_17 => ?_)
    refine E_bi (-2) dX5_look_20 (by decide) ?_
    exact E_reti dX5_look_22 rfl rfl (Nat.le_of_ble_eq_true rfl) (Nat.le_of_ble_eq_true rfl) ⟨rfl, by rw [lookR, hM]; rfl, by rw [lookS, hM]; exact C, CF.rf, R, rfl⟩
theorem lookS_i (a : Ab) (xs : List Nat) (p B K : Nat) {k : Nat} (h1 : k ≠ 14) (h2 : k ≠ 15) : (lookS a xs p B K).1 k = a.1 k := by
  unfold lookS
  split
  · split <;> simp [aI, va_up, h1, h2]
  · rfl
theorem lookS_2 (a : Ab) (xs : List Nat) (p B K : Nat) : (lookS a xs p B K).2 = a.2 := by
  unfold lookS
  split
  · split <;> rfl
  · rfl
def pLoop (xs : List Nat) (B K : Nat) : Nat → Nat → Ab → Ab
  | 0, _, a => a
  | n + 1, p, a => if p < xs.length then (if n = 0 then aI (aN a 2 (a.2.2.1 2 ++ [xs.getD p 0])) 13 (nI (p + 1)) else if lookR (aI (aN a 2 (a.2.2.1 2 ++ [xs.getD p 0])) 13 (nI (p + 1))) xs (p + 1) B K = -2 then pLoop xs B K n (p + 1) (lookS (aI (aN a 2 (a.2.2.1 2 ++ [xs.getD p 0])) 13 (nI (p + 1))) xs (p + 1) B K) else lookS (aI (aN a 2 (a.2.2.1 2 ++ [xs.getD p 0])) 13 (nI (p + 1))) xs (p + 1) B K) else a
def partA (a : Ab) (xs : List Nat) (p B K : Nat) : Ab := if lookR a xs p B K = -2 then aI (aI (pLoop xs B K 16 p (aN (lookS a xs p B K) 2 [])) 9 4) 10 (2 + nI ((pLoop xs B K 16 p (aN (lookS a xs p B K) 2 [])).2.2.1 2).length) else aI (aI (aI (aI (lookS a xs p B K) 9 5) 10 4) 11 (lookR a xs p B K)) 13 (nI p + nI B)
theorem bytes_ok {a : Ab} {h : Hp} (C : CRep a h) : RowL SH h 44 45 16 (a.2.2.1 2) ∧ ∀ x ∈ a.2.2.1 2, x < 256 := C.2.2.2.2.2.2.2.1
theorem getD_lt {xs : List Nat} (h : ∀ x ∈ xs, x < 256) (p : Nat) : xs.getD p 0 < 256 := by
  by_cases hp : p < xs.length
  · rw [List.getD_eq_getElem?_getD, List.getElem?_eq_getElem hp]
    exact h _ (List.getElem_mem hp)
  · rw [List.getD_eq_getElem?_getD, List.getElem?_eq_none (by omega)]
    decide
theorem gI_at {xs : List Nat} {p : Nat} (h : p < xs.length) (hx : xs.length ≤ 500) : gI xs (nI p) = nI (xs.getD p 0) := by
  rw [gI, if_pos (by rw [nI_toInt (by omega)]; omega), nI_clamp (by omega)]
theorem c_pLoop {r c B K : Nat} {xs : List Nat} (hX : ∀ x ∈ xs, x < 256) (hB2 : B ≤ 64) (hK2 : K ≤ 100) (hm : xs.length ≤ 500) (nr : r < 41) (nc : c < 41) {Q : QT} (h0 : Hp) (x3 : Option Value) : ∀ (n i p : Nat) (a : Ab) (h : Hp), n + i = 17 → CRep a h → CF h0 h → RowL SH h r c 500 xs → a.2.2.1 4 = [B, K] → a.1 13 = nI p → p ≤ xs.length → (a.2.2.1 2).length + 1 = i → (∀ h' x3 x5, CRep (pLoop xs B K n p a) h' → CF h0 h' → E mX5_makePart none Q 121 [some (.ref 49), some (.ref 43), some (.ref r), x3, some (.ref 44), x5] [] SH h' 0 0) → E mX5_makePart none Q 55 [some (.ref 49), some (.ref 43), some (.ref r), some (.int (-2)), some (.ref 44), some (.int (nI i))] [] SH h 0 0 := by
  intro n
  induction n with
  | zero =>
    intro i p a h hn C F R hBK hp hpl hlen kk
    have e : i = 17 := by omega
    subst e
    refine E_iload dX5_makePart_55 rfl ?_
    refine E_bi 16 dX5_makePart_57 (by decide) ?_
    refine E_icmp_gt 121 dX5_makePart_59 (by decide) (fun c_59 => ?_) (fun c_59 => absurd (by decide) c_59)
    exact kk h _ _ C F
  | succ n ih =>
    intro i p a h hn C F R hBK hp hpl hlen kk
    have e13 : h.1 49 3 = nI p := (C.1 13 (by decide)).trans hp
    have hs := R.1
    have hi16 : ¬ (16 : Int32) < nI i := by rw [show (16 : Int32) = nI 16 by decide]; exact nI_nlt (by omega) (by omega)
    by_cases hlt : p < xs.length
    · have Y := bytes_ok C
      rw [pLoop, if_pos hlt] at kk
      refine E_iload dX5_makePart_55 rfl ?_
      refine E_bi 16 dX5_makePart_57 (by decide) ?_
      refine E_icmp_gt 121 dX5_makePart_59 (by decide) (fun c_59 => absurd c_59 hi16) (fun c_59 => ?_)
      refine E_iload_n dX5_makePart_62 rfl ?_
      refine E_bi (-2) dX5_makePart_63 (by decide) ?_
      refine E_icmp_ne 121 dX5_makePart_65 (by decide) (fun c_65 => absurd rfl c_65) (fun c_65 => ?_)
      refine E_aload_n dX5_makePart_68 rfl ?_
      refine E_getI dX5_makePart_69 fl_X5_36 rfl rfl ?_
      refine E_aload_n dX5_makePart_72 rfl ?_
      refine cV0 (N := mX3_count) dX5_makePart_73 cn_X3_count lk_X5_65 ⟨Nat.le_of_ble_eq_true rfl, Nat.le_of_ble_eq_true rfl⟩ hs rfl (Nat.le_of_ble_eq_true rfl) ⟨rfl, rfl⟩ (c_Row_count hs) (fun v2 h2 ⟨hv2, hh2⟩ => ?_)
      rw [hv2, hh2, R.2.2.2.1]
      rw [e13]
      refine E_icmp_ge 121 dX5_makePart_76 (by decide) (fun c_76 => absurd c_76 (nI_ge hlt (by omega))) (fun c_76 => ?_)
      refine E_aload dX5_makePart_79 rfl ?_
      refine E_aload_n dX5_makePart_81 rfl ?_
      refine E_aload_n dX5_makePart_82 rfl ?_
      refine E_getI dX5_makePart_83 fl_X5_36 rfl rfl ?_
      rw [e13]
      refine cV1 (N := mX3_get) dX5_makePart_86 cn_X3_get lk_X5_96 ⟨Nat.le_of_ble_eq_true rfl, Nat.le_of_ble_eq_true rfl⟩ hs rfl (Nat.le_of_ble_eq_true rfl) ⟨rfl, rfl⟩ (c_Row_get R _) (fun v3 h3 ⟨hv3, hh3⟩ => ?_)
      rw [hv3, hh3, gI_at hlt hm]
      refine cV1 (N := mX3_add) dX5_makePart_89 cn_X3_add lk_X5_100 ⟨Nat.le_of_ble_eq_true rfl, Nat.le_of_ble_eq_true rfl⟩ rfl rfl (Nat.le_of_ble_eq_true rfl) ⟨rfl, rfl⟩ (c_Row_add Y.1 _) (fun v4 h4 ⟨hv4, R4, F4⟩ => ?_)
      rw [hv4]
      rw [rset, if_neg (by omega), if_pos (by omega)] at R4
      have C4 := C.bytes R4 F4 (app_lt Y.2 (fun x hx => by rw [List.mem_singleton.mp hx]; exact getD_lt hX p))
      have G4 := CF_row F F4 (by decide) (by decide)
      have S4 := R.other F4 (by omega) (by omega) (by omega) (by omega)
      have g13 : h4.1 49 3 = nI p := (C4.1 13 (by decide)).trans hp
      refine E_aload_n dX5_makePart_92 rfl ?_
      refine E_dup rfl dX5_makePart_93 ?_
      refine E_getI dX5_makePart_94 fl_X5_36 rfl rfl ?_
      refine E_ic 1 dX5_makePart_97 (by decide) ?_
      rw [g13]
      refine E_iadd dX5_makePart_98 ?_
      rw [nI_1]
      refine E_putI dX5_makePart_99 fl_X5_36 rfl rfl ?_
      have C5 := C4.setI 13 (nI (p + 1)) (by decide) (by decide)
      have G5 : CF h0 (sI h4 49 3 (nI (p + 1))) := CF_sI G4 (by decide)
      have S5 : RowL SH (sI h4 49 3 (nI (p + 1))) r c 500 xs := S4.keep (by funext j; have : r ≠ 49 := (by omega); simp [sI, u2, this]) (by funext j; have : c ≠ 49 := (by omega); simp [sI, u2, this]) rfl
      refine E_iload dX5_makePart_102 rfl ?_
      refine E_bi 16 dX5_makePart_104 (by decide) ?_
      rw [show (16 : Int32) = nI 16 by decide]
      refine E_icmp_ge 115 dX5_makePart_106 (by decide) (fun c_106 => ?_) (fun c_106 => ?_)
      · have hn0 : n = 0 := by have := (nI_leI (by omega) (by omega)).mp c_106; omega
        rw [if_pos hn0] at kk
        refine E_iinc dX5_makePart_115 rfl (by decide) ?_
        rw [nI_inc]
        refine E_goto 55 dX5_makePart_118 (by decide) ?_
        subst hn0
        exact ih (i + 1) (p + 1) _ _ (by omega) C5 G5 S5 hBK (by simp [aI, va_up]) (by omega) (by show ((aN a 2 _).2.2.1 2).length + 1 = _; rw [aN_at]; simp; omega) (fun h' x3 x5 c1 c2 => kk h' x3 x5 c1 c2)
      · refine E_aload_n dX5_makePart_109 rfl ?_
        refine E_aload_n dX5_makePart_110 rfl ?_
        have hn0 : ¬ n = 0 := fun q => c_106 (nI_le (by omega) (by omega))
        rw [if_neg hn0] at kk
        refine cV1 (N := mX5_look) dX5_makePart_111 cn_X5_look lk_X5_81 ⟨Nat.le_of_ble_eq_true rfl, Nat.le_of_ble_eq_true rfl⟩ rfl rfl (Nat.le_of_ble_eq_true rfl) ⟨rfl, rfl⟩ (c_look (p := p + 1) C5 S5 hX hBK hB2 hK2 (by simp [aI, va_up]) (by omega) (by omega) (by omega)) (fun v6 h6 ⟨hv6, C6, G6, S6, _⟩ => ?_)
        rw [hv6]
        refine E_istore_n dX5_makePart_114 (by decide) ?_
        refine E_iinc dX5_makePart_115 rfl (by decide) ?_
        rw [nI_inc]
        refine E_goto 55 dX5_makePart_118 (by decide) ?_
        by_cases hl : lookR (aI (aN a 2 (a.2.2.1 2 ++ [xs.getD p 0])) 13 (nI (p + 1))) xs (p + 1) B K = -2
        · rw [if_pos hl] at kk
          rw [hl]
          exact ih (i + 1) (p + 1) _ h6 (by omega) C6 (G5.tr G6) S6 (by rw [lookS_2]; exact hBK) (by rw [lookS_i _ _ _ _ _ (by decide) (by decide)]; simp [aI, va_up]) (by omega) (by rw [lookS_2]; show ((aN a 2 _).2.2.1 2).length + 1 = _; rw [aN_at]; simp; omega) kk
        · rw [if_neg hl] at kk
          refine E_iload dX5_makePart_55 rfl ?_
          refine E_bi 16 dX5_makePart_57 (by decide) ?_
          refine E_icmp_gt 121 dX5_makePart_59 (by decide) (fun _ => kk h6 _ _ C6 (G5.tr G6)) (fun _ => ?_)
          refine E_iload_n dX5_makePart_62 rfl ?_
          refine E_bi (-2) dX5_makePart_63 (by decide) ?_
          exact E_icmp_ne 121 dX5_makePart_65 (by decide) (fun _ => kk h6 _ _ C6 (G5.tr G6)) (fun q => absurd q hl)
    · rw [pLoop, if_neg hlt] at kk
      refine E_iload dX5_makePart_55 rfl ?_
      refine E_bi 16 dX5_makePart_57 (by decide) ?_
      refine E_icmp_gt 121 dX5_makePart_59 (by decide) (fun c_59 => absurd c_59 hi16) (fun c_59 => ?_)
      refine E_iload_n dX5_makePart_62 rfl ?_
      refine E_bi (-2) dX5_makePart_63 (by decide) ?_
      refine E_icmp_ne 121 dX5_makePart_65 (by decide) (fun c_65 => absurd rfl c_65) (fun c_65 => ?_)
      refine E_aload_n dX5_makePart_68 rfl ?_
      refine E_getI dX5_makePart_69 fl_X5_36 rfl rfl ?_
      refine E_aload_n dX5_makePart_72 rfl ?_
      refine cV0 (N := mX3_count) dX5_makePart_73 cn_X3_count lk_X5_65 ⟨Nat.le_of_ble_eq_true rfl, Nat.le_of_ble_eq_true rfl⟩ hs rfl (Nat.le_of_ble_eq_true rfl) ⟨rfl, rfl⟩ (c_Row_count hs) (fun v2 h2 ⟨hv2, hh2⟩ => ?_)
      rw [hv2, hh2, R.2.2.2.1]
      rw [e13]
      refine E_icmp_ge 121 dX5_makePart_76 (by decide) (fun c_76 => ?_) (fun c_76 => absurd (nI_le (by omega) (by omega)) c_76)
      exact kk h _ _ C F
theorem part_tail {b : Ab} {h h5 : Hp} {r : Nat} {x3 x5 : Option Value} (C5 : CRep b h5) (F5 : CF h h5) : E mX5_makePart none (fun v sh' h' => sh' = SH ∧ v = none ∧ CRep (aI (aI b 9 4) 10 (2 + nI (b.2.2.1 2).length)) h' ∧ CF h h') 121 [some (.ref 49), some (.ref 43), some (.ref r), x3, some (.ref 44), x5] [] SH h5 0 0 := by
  have Y5 := bytes_ok C5
  refine E_aload_n dX5_makePart_121 rfl ?_
  refine E_ic 4 dX5_makePart_122 (by decide) ?_
  refine E_ic 2 dX5_makePart_123 (by decide) ?_
  refine E_aload dX5_makePart_124 rfl ?_
  refine cV0 (N := mX3_count) dX5_makePart_126 cn_X3_count lk_X5_65 ⟨Nat.le_of_ble_eq_true rfl, Nat.le_of_ble_eq_true rfl⟩ rfl rfl (Nat.le_of_ble_eq_true rfl) ⟨rfl, rfl⟩ (c_Row_count rfl) (fun v6 h6 ⟨hv6, hh6⟩ => ?_)
  rw [hv6, hh6, Y5.1.2.2.2.1]
  refine E_iadd dX5_makePart_129 ?_
  refine cV2 (N := mX1_become) dX5_makePart_130 cn_X1_become lk_X5_39 ⟨Nat.le_of_ble_eq_true rfl, Nat.le_of_ble_eq_true rfl⟩ rfl rfl (Nat.le_of_ble_eq_true rfl) ⟨rfl, rfl⟩ (c_become rfl _ _) (fun v7 h7 ⟨hv7, hh7⟩ => ?_)
  rw [hv7, hh7]
  have C8 := C5.setI 9 4 (by decide) (by decide)
  have C9 := C8.setI 10 (2 + nI (b.2.2.1 2).length) (by decide) (by decide)
  exact E_retv dX5_makePart_133 rfl (Nat.le_of_ble_eq_true rfl) (Nat.le_of_ble_eq_true rfl) ⟨rfl, rfl, C9, CF_sI (CF_sI F5 (by decide)) (by decide)⟩
theorem c_makePart {a : Ab} {h : Hp} (C : CRep a h) {r c p B K : Nat} {xs : List Nat} (R : RowL SH h r c 500 xs) (hX : ∀ x ∈ xs, x < 256) (hBK : a.2.2.1 4 = [B, K]) (hB2 : B ≤ 64) (hK2 : K ≤ 100) (hp : a.1 13 = nI p) (hpl : p ≤ xs.length) (nr : r < 41) (nc : c < 41) : Sp0 mX5_makePart [.ref 49, .ref 43, .ref r] SH h (fun v h' => v = none ∧ CRep (partA a xs p B K) h' ∧ CF h h') := by
  have hm : xs.length ≤ 500 := R.2.2.2.2.1
  have hs := R.1
  refine Sp0.of (by decide) (Nat.le_of_ble_eq_true rfl) ?_
  show E mX5_makePart none _ 0 [some (.ref 49), some (.ref 43), some (.ref r), none, none, none] [] SH h 0 0
  by_cases hl : lookR a xs p B K = -2
  · rw [partA, if_pos hl]
    refine E_aload_n dX5_makePart_0 rfl ?_
    refine E_aload_n dX5_makePart_1 rfl ?_
    refine cV1 (N := mX5_look) dX5_makePart_2 cn_X5_look lk_X5_81 ⟨Nat.le_of_ble_eq_true rfl, Nat.le_of_ble_eq_true rfl⟩ rfl rfl (Nat.le_of_ble_eq_true rfl) ⟨rfl, rfl⟩ (c_look C R hX hBK hB2 hK2 hp (by omega) (by omega) (by omega)) (fun v2 h2 ⟨hv2, C2, F2, R2, e2⟩ => ?_)
    rw [hv2, hl]
    have r44 : h2.2.2 43 0 = some 44 := C2.2.2.1.2.2.2.2.2.2.2.2.2.2.1
    have Y := bytes_ok C2
    refine E_istore_n dX5_makePart_5 (by decide) ?_
    refine E_iload_n dX5_makePart_6 rfl ?_
    refine E_bi (-2) dX5_makePart_7 (by decide) ?_
    refine E_icmp_eq 40 dX5_makePart_9 (by decide) (fun c_9 => ?_) (fun c_9 => absurd rfl c_9)
    refine E_aload_n dX5_makePart_40 rfl ?_
    refine E_getR dX5_makePart_41 fl_X5_88 rfl (by assumption) rfl ?_
    refine E_astore dX5_makePart_44 (by decide) ?_
    refine E_aload dX5_makePart_46 rfl ?_
    refine E_ic 0 dX5_makePart_48 (by decide) ?_
    rw [show (0 : Int32) = nI 0 by decide]
    refine cV1 (N := mX3_keep) dX5_makePart_49 cn_X3_keep lk_X5_92 ⟨Nat.le_of_ble_eq_true rfl, Nat.le_of_ble_eq_true rfl⟩ rfl rfl (Nat.le_of_ble_eq_true rfl) ⟨rfl, rfl⟩ (c_Row_keep Y.1 (by omega)) (fun v3 h3 ⟨hv3, R3, F3⟩ => ?_)
    rw [hv3]
    have C3 := C2.bytes (ys := []) (by simpa using R3) F3 (fun x hx => by cases hx)
    have S3 := R2.other F3 (by omega) (by omega) (by omega) (by omega)
    refine E_ic 1 dX5_makePart_52 (by decide) ?_
    refine E_istore dX5_makePart_53 (by decide) ?_
    refine c_pLoop hX hB2 hK2 hm nr nc h none 16 1 p _ h3 (by omega) C3 (CF_row F2 F3 (by decide) (by decide)) S3 (by show (lookS a xs p B K).2.2.1 4 = _; rw [lookS_2]; exact hBK) (by show (lookS a xs p B K).1 13 = _; rw [lookS_i _ _ _ _ _ (by decide) (by decide)]; exact hp) hpl (by rw [aN_at]; rfl) (fun h' x3 x5 C5 F5 => ?_)
    generalize pLoop xs B K 16 p (aN (lookS a xs p B K) 2 []) = b at C5 ⊢
    exact part_tail C5 F5
  · rw [partA, if_neg hl]
    refine E_aload_n dX5_makePart_0 rfl ?_
    refine E_aload_n dX5_makePart_1 rfl ?_
    refine cV1 (N := mX5_look) dX5_makePart_2 cn_X5_look lk_X5_81 ⟨Nat.le_of_ble_eq_true rfl, Nat.le_of_ble_eq_true rfl⟩ rfl rfl (Nat.le_of_ble_eq_true rfl) ⟨rfl, rfl⟩ (c_look C R hX hBK hB2 hK2 hp (by omega) (by omega) (by omega)) (fun v2 h2 ⟨hv2, C2, F2, R2, e2⟩ => ?_)
    rw [hv2]
    refine E_istore_n dX5_makePart_5 (by decide) ?_
    refine E_iload_n dX5_makePart_6 rfl ?_
    refine E_bi (-2) dX5_makePart_7 (by decide) ?_
    refine E_icmp_eq 40 dX5_makePart_9 (by decide) (fun c_9 => absurd c_9 hl) (fun c_9 => ?_)
    refine E_aload_n dX5_makePart_12 rfl ?_
    refine E_ic 5 dX5_makePart_13 (by decide) ?_
    refine E_ic 4 dX5_makePart_14 (by decide) ?_
    refine cV2 (N := mX1_become) dX5_makePart_15 cn_X1_become lk_X5_39 ⟨Nat.le_of_ble_eq_true rfl, Nat.le_of_ble_eq_true rfl⟩ rfl rfl (Nat.le_of_ble_eq_true rfl) ⟨rfl, rfl⟩ (c_become rfl _ _) (fun v3 h3 ⟨hv3, hh3⟩ => ?_)
    rw [hv3, hh3]
    have C3 := C2.setI 9 5 (by decide) (by decide)
    have C4 := C3.setI 10 4 (by decide) (by decide)
    have F4 : CF h (sI (sI h2 43 2 5) 43 3 4) := CF_sI (CF_sI F2 (by decide)) (by decide)
    refine E_aload_n dX5_makePart_18 rfl ?_
    refine E_iload_n dX5_makePart_19 rfl ?_
    refine E_putI dX5_makePart_20 fl_X5_45 rfl rfl ?_
    have C5 := C4.setI 11 (lookR a xs p B K) (by decide) (by decide)
    have F5 : CF h (sI (sI (sI h2 43 2 5) 43 3 4) 43 4 (lookR a xs p B K)) := CF_sI F4 (by decide)
    obtain ⟨B1, K1, hBK1, S1⟩ := C5.2.2.2.2.2.2.2.2.2.2.2
    rw [show (aI (aI (aI (lookS a xs p B K) 9 5) 10 4) 11 (lookR a xs p B K)).2.2.1 4 = (lookS a xs p B K).2.2.1 4 from rfl, lookS_2, hBK] at hBK1
    cases hBK1
    have r50 : (sI (sI (sI h2 43 2 5) 43 3 4) 43 4 (lookR a xs p B K)).2.2 49 0 = some 50 := C5.2.2.1.2.2.2.2.2.2.2.2.2.2.2.2.1
    have g3 : (sI (sI (sI h2 43 2 5) 43 3 4) 43 4 (lookR a xs p B K)).1 50 3 = nI B := S1.2.2.2.2.2.2.2.1
    have g13 : (sI (sI (sI h2 43 2 5) 43 3 4) 43 4 (lookR a xs p B K)).1 49 3 = nI p := (C5.1 13 (by decide)).trans (by show (lookS a xs p B K).1 13 = _; rw [lookS_i _ _ _ _ _ (by decide) (by decide)]; exact hp)
    refine E_aload_n dX5_makePart_23 rfl ?_
    refine E_dup rfl dX5_makePart_24 ?_
    refine E_getI dX5_makePart_25 fl_X5_36 rfl rfl ?_
    refine E_aload_n dX5_makePart_28 rfl ?_
    refine E_getR dX5_makePart_29 fl_X5_12 rfl r50 rfl ?_
    refine cV0 (N := mX7_block) dX5_makePart_32 cn_X7_block lk_X5_85 ⟨Nat.le_of_ble_eq_true rfl, Nat.le_of_ble_eq_true rfl⟩ rfl rfl (Nat.le_of_ble_eq_true rfl) ⟨rfl, rfl⟩ (c_Sums_block rfl) (fun v6 h6 ⟨hv6, hh6⟩ => ?_)
    rw [hv6, hh6, g3, g13]
    refine E_iadd dX5_makePart_35 ?_
    refine E_putI dX5_makePart_36 fl_X5_36 rfl rfl ?_
    have C7 := C5.setI 13 (nI p + nI B) (by decide) (by decide)
    exact E_retv dX5_makePart_39 rfl (Nat.le_of_ble_eq_true rfl) (Nat.le_of_ble_eq_true rfl) ⟨rfl, rfl, C7, CF_sI F5 (by decide)⟩
def sNextA (a : Ab) (p B K : Nat) : Ab := match exF (sF a) (a.1 12) with
  | none => if a.1 9 = 2 then aI (aI a 9 3) 10 1 else aL (aI (aI a 9 6) 10 11) 3 dgE
  | some f => if ((sF a f).getD []).length ≤ p then aL (aI (aI a 9 6) 10 11) 3 (dig ((sF a f).getD [])) else partA a ((sF a f).getD []) p B K
theorem c_sNext {a : Ab} {h : Hp} (C : CRep a h) {p B K : Nat} (hBK : a.2.2.1 4 = [B, K]) (hB2 : B ≤ 64) (hK2 : K ≤ 100) (hp : a.1 13 = nI p) (hp2 : p ≤ 600) : Sp0 mX5_makeNext [.ref 49, .ref 43] SH h (fun v h' => v = none ∧ CRep (sNextA a p B K) h' ∧ CF h h') := by
  have e9 : h.1 43 2 = a.1 9 := C.1 9 (by decide)
  have e12 : h.1 49 2 = a.1 12 := C.1 12 (by decide)
  have e13 : h.1 49 3 = a.1 13 := C.1 13 (by decide)
  have rS := C.rS
  have S := C.side (sr a) (sr_lt a)
  have hsid := sid_in (sr a)
  refine Sp0.of (by decide) (Nat.le_of_ble_eq_true rfl) ?_
  show E mX5_makeNext none _ 0 [some (.ref 49), some (.ref 43), none] [] SH h 0 0
  cases hq : exF (sF a) (a.1 12) with
  | none =>
    simp only [sNextA, hq]
    refine E_aload_n dX5_makeNext_0 rfl ?_
    refine E_getR dX5_makeNext_1 fl_X5_18 rfl rS rfl ?_
    refine E_aload_n dX5_makeNext_4 rfl ?_
    refine E_getI dX5_makeNext_5 fl_X5_33 rfl rfl ?_
    rw [e12]
    refine cV1 (N := mX6_existing) dX5_makeNext_8 cn_X6_existing lk_X5_58 ⟨Nat.le_of_ble_eq_true rfl, Nat.le_of_ble_eq_true rfl⟩ S.1.1.1 rfl (Nat.le_of_ble_eq_true rfl) ⟨rfl, rfl⟩ (c_existing S.1 _) (fun v2 h2 ⟨hv2, hh2⟩ => ?_)
    rw [hv2, hh2, show exF (a.2.2.2.1 (sr a)) (a.1 12) = none from hq]
    refine E_astore_nN dX5_makeNext_11 (by decide) ?_
    refine E_aload_nN dX5_makeNext_12 rfl ?_
    refine E_ifnonnullN dX5_makeNext_13 ?_
    refine E_aload_n dX5_makeNext_16 rfl ?_
    refine E_getI dX5_makeNext_17 fl_X5_62 rfl rfl ?_
    refine E_ic 2 dX5_makeNext_20 (by decide) ?_
    rw [e9]
    refine E_icmp_ne 33 dX5_makeNext_21 (by decide) (fun c_21 => ?_) (fun c_21 => ?_)
    · refine E_aload_nN dX5_makeNext_33 rfl ?_
      refine E_ifnullN 48 dX5_makeNext_34 (by decide) ?_
      refine E_aload_n dX5_makeNext_48 rfl ?_
      refine E_bi 6 dX5_makeNext_49 (by decide) ?_
      refine E_bi 11 dX5_makeNext_51 (by decide) ?_
      refine cV2 (N := mX1_become) dX5_makeNext_53 cn_X1_become lk_X5_39 ⟨Nat.le_of_ble_eq_true rfl, Nat.le_of_ble_eq_true rfl⟩ rfl rfl (Nat.le_of_ble_eq_true rfl) ⟨rfl, rfl⟩ (c_become rfl _ _) (fun v3 h3 ⟨hv3, hh3⟩ => ?_)
      rw [hv3, hh3]
      have C3 := C.setI 9 6 (by decide) (by decide)
      have C4 := C3.setI 10 11 (by decide) (by decide)
      refine E_aload_n dX5_makeNext_56 rfl ?_
      refine E_aload_nN dX5_makeNext_57 rfl ?_
      refine E_ifnonnullN dX5_makeNext_58 ?_
      refine E_ldc2 dX5_makeNext_61 kl_X5_71 ?_
      refine E_goto 75 dX5_makeNext_64 (by decide) ?_
      refine E_putL dX5_makeNext_75 fl_X5_54 rfl rfl ?_
      refine E_goto 87 dX5_makeNext_78 (by decide) ?_
      have C5 := C4.setL 3 dgE (by decide)
      exact E_retv dX5_makeNext_87 rfl (Nat.le_of_ble_eq_true rfl) (Nat.le_of_ble_eq_true rfl) ⟨rfl, rfl, by rw [if_neg c_21]; exact C5, CF_sL (CF_sI (CF_sI CF.rf (by decide)) (by decide)) (by decide)⟩
    · refine E_aload_n dX5_makeNext_24 rfl ?_
      refine E_ic 3 dX5_makeNext_25 (by decide) ?_
      refine E_ic 1 dX5_makeNext_26 (by decide) ?_
      refine cV2 (N := mX1_become) dX5_makeNext_27 cn_X1_become lk_X5_39 ⟨Nat.le_of_ble_eq_true rfl, Nat.le_of_ble_eq_true rfl⟩ rfl rfl (Nat.le_of_ble_eq_true rfl) ⟨rfl, rfl⟩ (c_become rfl _ _) (fun v3 h3 ⟨hv3, hh3⟩ => ?_)
      rw [hv3, hh3]
      have C3 := C.setI 9 3 (by decide) (by decide)
      have C4 := C3.setI 10 1 (by decide) (by decide)
      refine E_goto 87 dX5_makeNext_30 (by decide) ?_
      exact E_retv dX5_makeNext_87 rfl (Nat.le_of_ble_eq_true rfl) (Nat.le_of_ble_eq_true rfl) ⟨rfl, rfl, by rw [if_pos c_21]; exact C4, CF_sI (CF_sI CF.rf (by decide)) (by decide)⟩
  | some f =>
    obtain ⟨hf, hxf, xs, hxs⟩ := exF_some hq
    have R := S.1.2.1 f hf
    have hO : ∀ x ∈ xs, x < 256 := S.1.2.2.2 f xs hxs
    rw [show a.2.2.2.1 (sr a) f = some xs from hxs] at R
    have R : RowL SH h (rId (sid (sr a)) f) (cId (sid (sr a)) f) 500 xs := R
    have hm : xs.length ≤ 500 := R.2.2.2.2.1
    simp only [sNextA, hq, hxs]
    refine E_aload_n dX5_makeNext_0 rfl ?_
    refine E_getR dX5_makeNext_1 fl_X5_18 rfl rS rfl ?_
    refine E_aload_n dX5_makeNext_4 rfl ?_
    refine E_getI dX5_makeNext_5 fl_X5_33 rfl rfl ?_
    rw [e12]
    refine cV1 (N := mX6_existing) dX5_makeNext_8 cn_X6_existing lk_X5_58 ⟨Nat.le_of_ble_eq_true rfl, Nat.le_of_ble_eq_true rfl⟩ S.1.1.1 rfl (Nat.le_of_ble_eq_true rfl) ⟨rfl, rfl⟩ (c_existing S.1 _) (fun v2 h2 ⟨hv2, hh2⟩ => ?_)
    rw [hv2, hh2, show exF (a.2.2.2.1 (sr a)) (a.1 12) = some f from hq]
    refine E_astore_n dX5_makeNext_11 (by decide) ?_
    refine E_aload_n dX5_makeNext_12 rfl ?_
    refine E_ifnonnull 33 dX5_makeNext_13 (by decide) ?_
    refine E_aload_n dX5_makeNext_33 rfl ?_
    refine E_ifnull dX5_makeNext_34 ?_
    refine E_aload_n dX5_makeNext_37 rfl ?_
    refine E_getI dX5_makeNext_38 fl_X5_36 rfl rfl ?_
    refine E_aload_n dX5_makeNext_41 rfl ?_
    refine cV0 (N := mX3_count) dX5_makeNext_42 cn_X3_count lk_X5_65 ⟨Nat.le_of_ble_eq_true rfl, Nat.le_of_ble_eq_true rfl⟩ R.1 rfl (Nat.le_of_ble_eq_true rfl) ⟨rfl, rfl⟩ (c_Row_count R.1) (fun v3 h3 ⟨hv3, hh3⟩ => ?_)
    rw [hv3, hh3, R.2.2.2.1]
    rw [e13, hp]
    refine E_icmp_lt 81 dX5_makeNext_45 (by decide) (fun c_45 => ?_) (fun c_45 => ?_)
    · refine E_aload_n dX5_makeNext_81 rfl ?_
      refine E_aload_n dX5_makeNext_82 rfl ?_
      refine E_aload_n dX5_makeNext_83 rfl ?_
      have hlt : p < xs.length := (nI_ltI (by omega) (by show xs.length < _; omega)).mp c_45
      refine cV2 (N := mX5_makePart) dX5_makeNext_84 cn_X5_makePart lk_X5_77 ⟨Nat.le_of_ble_eq_true rfl, Nat.le_of_ble_eq_true rfl⟩ rfl rfl (Nat.le_of_ble_eq_true rfl) ⟨rfl, rfl⟩ (c_makePart C R hO hBK hB2 hK2 hp (by omega) (by unfold rId; omega) (by unfold cId; omega)) (fun v6 h6 ⟨hv6, C6, F6⟩ => ?_)
      rw [hv6]
      exact E_retv dX5_makeNext_87 rfl (Nat.le_of_ble_eq_true rfl) (Nat.le_of_ble_eq_true rfl) ⟨rfl, rfl, by rw [if_neg (by show ¬ xs.length ≤ p; omega)]; exact C6, F6⟩
    · have hge : xs.length ≤ p := Nat.le_of_not_lt fun q => c_45 (nI_lt q (by show xs.length < _; omega))
      refine E_aload_n dX5_makeNext_48 rfl ?_
      refine E_bi 6 dX5_makeNext_49 (by decide) ?_
      refine E_bi 11 dX5_makeNext_51 (by decide) ?_
      refine cV2 (N := mX1_become) dX5_makeNext_53 cn_X1_become lk_X5_39 ⟨Nat.le_of_ble_eq_true rfl, Nat.le_of_ble_eq_true rfl⟩ rfl rfl (Nat.le_of_ble_eq_true rfl) ⟨rfl, rfl⟩ (c_become rfl _ _) (fun v4 h4 ⟨hv4, hh4⟩ => ?_)
      rw [hv4, hh4]
      have C3 := C.setI 9 6 (by decide) (by decide)
      have C4 := C3.setI 10 11 (by decide) (by decide)
      have R4 : RowL SH (sI (sI h 43 2 6) 43 3 11) (rId (sid (sr a)) f) (cId (sid (sr a)) f) 500 xs := R.keep (by funext j; have : rId (sid (sr a)) f ≠ 43 := (by unfold rId; omega); simp [sI, u2, this]) (by funext j; have : cId (sid (sr a)) f ≠ 43 := (by unfold cId; omega); simp [sI, u2, this]) rfl
      refine E_aload_n dX5_makeNext_56 rfl ?_
      refine E_aload_n dX5_makeNext_57 rfl ?_
      refine E_ifnonnull 67 dX5_makeNext_58 (by decide) ?_
      refine E_aload_n dX5_makeNext_67 rfl ?_
      refine E_ic 0 dX5_makeNext_68 (by decide) ?_
      refine E_si 500 dX5_makeNext_69 (by decide) ?_
      rw [show (0 : Int32) = nI 0 by decide, show (500 : Int32) = nI 500 by decide]
      refine cV2 (N := mX3_digestOf) dX5_makeNext_72 cn_X3_digestOf lk_X5_73 ⟨Nat.le_of_ble_eq_true rfl, Nat.le_of_ble_eq_true rfl⟩ R.1 rfl (Nat.le_of_ble_eq_true rfl) ⟨rfl, rfl⟩ (c_Row_digestOf R4 (by omega) (by omega)) (fun v5 h5 ⟨hv5, hh5⟩ => ?_)
      rw [hv5, hh5, List.drop_zero, List.take_of_length_le hm]
      refine E_putL dX5_makeNext_75 fl_X5_54 rfl rfl ?_
      refine E_goto 87 dX5_makeNext_78 (by decide) ?_
      have C5 := C4.setL 3 (dig xs) (by decide)
      exact E_retv dX5_makeNext_87 rfl (Nat.le_of_ble_eq_true rfl) (Nat.le_of_ble_eq_true rfl) ⟨rfl, rfl, by rw [if_pos (show ((some xs).getD []).length ≤ p from hge)]; exact C5, CF_sL (CF_sI (CF_sI CF.rf (by decide)) (by decide)) (by decide)⟩
def sNodeA (a : Ab) (x : Nat) : Ab := aL (aI (aI a 9 1) 10 10) 3 (nodeF (sF a) x)
theorem c_sNode {a : Ab} {h : Hp} (C : CRep a h) {x : Nat} (h1 : 1 ≤ x) (h2 : x < 16) (hx : a.1 11 = nI x) : Sp0 mX5_makeNode [.ref 49, .ref 43] SH h (fun v h' => v = none ∧ CRep (sNodeA a x) h' ∧ CF h h') := by
  have C3 := C.setI 9 1 (by decide) (by decide)
  have C4 : CRep (aI (aI a 9 1) 10 10) (sI (sI h 43 2 1) 43 3 10) := C3.setI 10 10 (by decide) (by decide)
  have rS : (sI (sI h 43 2 1) 43 3 10).2.2 49 1 = some (sid (sr a)) := C4.rS
  have S := C4.side (sr a) (sr_lt a)
  have e11 : (sI (sI h 43 2 1) 43 3 10).1 43 4 = nI x := (C4.1 11 (by decide)).trans hx
  have hX : (nI x).toInt = x := nI_toInt (by omega)
  refine Sp0.of (by decide) (Nat.le_of_ble_eq_true rfl) ?_
  show E mX5_makeNode none _ 0 [some (.ref 49), some (.ref 43)] [] SH h 0 0
  refine E_aload_n dX5_makeNode_0 rfl ?_
  refine E_ic 1 dX5_makeNode_1 (by decide) ?_
  refine E_bi 10 dX5_makeNode_2 (by decide) ?_
  refine cV2 (N := mX1_become) dX5_makeNode_4 cn_X1_become lk_X5_39 ⟨Nat.le_of_ble_eq_true rfl, Nat.le_of_ble_eq_true rfl⟩ rfl rfl (Nat.le_of_ble_eq_true rfl) ⟨rfl, rfl⟩ (c_become rfl _ _) (fun v2 h2 ⟨hv2, hh2⟩ => ?_)
  rw [hv2, hh2]
  refine E_aload_n dX5_makeNode_7 rfl ?_
  refine E_aload_n dX5_makeNode_8 rfl ?_
  refine E_getR dX5_makeNode_9 fl_X5_18 rfl rS rfl ?_
  refine E_aload_n dX5_makeNode_12 rfl ?_
  refine E_getI dX5_makeNode_13 fl_X5_45 rfl rfl ?_
  rw [e11]
  refine cV1 (N := mX6_digestAt) dX5_makeNode_16 cn_X6_digestAt lk_X5_48 ⟨Nat.le_of_ble_eq_true rfl, Nat.le_of_ble_eq_true rfl⟩ S.1.1.1 rfl (Nat.le_of_ble_eq_true rfl) ⟨rfl, rfl⟩ (c_digestAt S.1.1 S.2 _) (fun v3 h3 ⟨hv3, hh3⟩ => ?_)
  rw [hv3, hh3, if_pos (by rw [hX]; omega), nI_clamp (by omega)]
  refine E_putL dX5_makeNode_19 fl_X5_54 rfl rfl ?_
  have C5 := C4.setL 3 (nodeF (sF a) x) (by decide)
  exact E_retv dX5_makeNode_22 rfl (Nat.le_of_ble_eq_true rfl) (Nat.le_of_ble_eq_true rfl) ⟨rfl, rfl, C5, CF_sL (CF_sI (CF_sI CF.rf (by decide)) (by decide)) (by decide)⟩
def sTakeA (a : Ab) : Ab := aI (aI (aS (aN a 4 (a.2.2.1 3)) 1 (a.2.2.2.2.2 0)) 12 (a.1 11)) 13 0
theorem c_sTake {a : Ab} {h : Hp} (C : CRep a h) : Sp0 mX5_takeSums [.ref 49, .int (a.1 11), .ref 46] SH h (fun v h' => v = none ∧ CRep (sTakeA a) h' ∧ CF h h') := by
  have r50 : h.2.2 49 0 = some 50 := C.2.2.1.2.2.2.2.2.2.2.2.2.2.2.2.1
  obtain ⟨B0, K0, e0, S0⟩ := C.2.2.2.2.2.2.2.2.2.2.1
  obtain ⟨B1, K1, e1, S1⟩ := C.2.2.2.2.2.2.2.2.2.2.2
  refine Sp0.of (by decide) (Nat.le_of_ble_eq_true rfl) ?_
  show E mX5_takeSums none _ 0 [some (.ref 49), some (.int (a.1 11)), some (.ref 46)] [] SH h 0 0
  refine E_aload_n dX5_takeSums_0 rfl ?_
  refine E_getR dX5_takeSums_1 fl_X5_12 rfl r50 rfl ?_
  refine E_aload_n dX5_takeSums_4 rfl ?_
  refine cV1 (N := mX7_copyFrom) dX5_takeSums_5 cn_X7_copyFrom lk_X5_29 ⟨Nat.le_of_ble_eq_true rfl, Nat.le_of_ble_eq_true rfl⟩ rfl rfl (Nat.le_of_ble_eq_true rfl) ⟨rfl, rfl⟩ (c_copyFrom S1 S0 (by omega)) (fun v2 h2 ⟨hv2, S2, F2⟩ => ?_)
  rw [hv2]
  have C2 := C.sums (j := 1) (by decide) S2 F2
  rw [← e0] at C2
  have C3 := C2.setI 12 (a.1 11) (by decide) (by decide)
  refine E_aload_n dX5_takeSums_8 rfl ?_
  refine E_iload_n dX5_takeSums_9 rfl ?_
  refine E_putI dX5_takeSums_10 fl_X5_33 rfl rfl ?_
  refine E_aload_n dX5_takeSums_13 rfl ?_
  refine E_ic 0 dX5_takeSums_14 (by decide) ?_
  refine E_putI dX5_takeSums_15 fl_X5_36 rfl rfl ?_
  have C4 := C3.setI 13 0 (by decide) (by decide)
  exact E_retv dX5_takeSums_18 rfl (Nat.le_of_ble_eq_true rfl) (Nat.le_of_ble_eq_true rfl) ⟨rfl, rfl, C4, CF_sI (CF_sI (CF_fr CF.rf F2 (by decide)) (by decide)) (by decide)⟩
end
section
/-! RollingSync$Run -/
def xN (a : Ab) (k : Nat) : Nat := (a.1 k).toNatClampNeg
theorem xN_of {a : Ab} {k n : Nat} (h : a.1 k = nI n) (hn : n < 2 ^ 31) : xN a k = n := by rw [xN, h, nI_clamp hn]
def mkA (a : Ab) : Ab := if a.1 9 = 0 then sNodeA a (xN a 11) else if a.1 9 = 2 ∨ a.1 9 = 4 ∨ a.1 9 = 5 then sNextA a (xN a 13) ((a.2.2.1 4).getD 0 0) ((a.2.2.1 4).getD 1 0) else if a.1 9 = 6 then aI (aI a 9 7) 10 1 else if 0 < (a.2.2.1 0).length then rAsk a else rSums a (xN a 16) ((rPick a).1 20).toNatClampNeg
def MkPre (a : Ab) : Prop := (a.1 9 = 0 ∧ ∃ x, 1 ≤ x ∧ x < 16 ∧ a.1 11 = nI x) ∨ ((a.1 9 = 2 ∨ a.1 9 = 4 ∨ a.1 9 = 5) ∧ ∃ p B K, a.2.2.1 4 = [B, K] ∧ B ≤ 64 ∧ K ≤ 100 ∧ a.1 13 = nI p ∧ p ≤ 600) ∨ a.1 9 = 6 ∨ ((a.1 9 = -2 ∨ a.1 9 = 1 ∨ a.1 9 = 3 ∨ a.1 9 = 7) ∧ ∃ B K, a.1 16 = nI B ∧ 0 < B ∧ B ≤ 64 ∧ (rPick a).1 20 = nI K ∧ K ≤ 100)
theorem c_makeMessage {a : Ab} {h : Hp} (C : CRep a h) (P : MkPre a) : Sp0 mX4_makeMessage [.ref 42] SH h (fun v h' => v = none ∧ CRep (mkA a) h' ∧ CF h h') := by
  obtain ⟨r00, r01, r02, r03, r420, r421, r422, r423, r424, r425, r430, r431, r490, r491, r530, r531, r532, r533, r534⟩ := id C.2.2.1
  have e9 : h.1 43 2 = a.1 9 := C.1 9 (by decide)
  refine Sp0.of (by decide) (Nat.le_of_ble_eq_true rfl) ?_
  show E mX4_makeMessage none _ 0 [some (.ref 42)] [] SH h 0 0
  rcases P with ⟨k0, x, x1, x2, hx⟩ | ⟨k2, p, B, K, hBK, hB2, hK2, hp, hp2⟩ | k6 | ⟨kd, B, K, hB, hB0, hB2, hK, hK2⟩
  · refine E_aload_n dX4_makeMessage_0 rfl ?_
    refine E_getR dX4_makeMessage_1 fl_X4_12 rfl r425 rfl ?_
    refine E_getI dX4_makeMessage_4 fl_X4_150 rfl rfl ?_
    rw [e9, k0]
    refine E_tabIn 48 dX4_makeMessage_7 (by decide) (by decide) rfl (by decide) ?_
    refine E_aload_n dX4_makeMessage_48 rfl ?_
    refine E_getR dX4_makeMessage_49 fl_X4_41 rfl r423 rfl ?_
    refine E_aload_n dX4_makeMessage_52 rfl ?_
    refine E_getR dX4_makeMessage_53 fl_X4_12 rfl r425 rfl ?_
    refine cV1 (N := mX5_makeNode) dX4_makeMessage_56 cn_X5_makeNode lk_X4_153 ⟨Nat.le_of_ble_eq_true rfl, Nat.le_of_ble_eq_true rfl⟩ rfl rfl (Nat.le_of_ble_eq_true rfl) ⟨rfl, rfl⟩ (c_sNode C x1 x2 hx) (fun v2 h2 ⟨hv2, C2, F2⟩ => ?_)
    rw [hv2]
    refine E_goto 100 dX4_makeMessage_59 (by decide) ?_
    exact E_retv dX4_makeMessage_100 rfl (Nat.le_of_ble_eq_true rfl) (Nat.le_of_ble_eq_true rfl) ⟨rfl, rfl, by rw [mkA, if_pos k0, xN_of hx (by omega)]; exact C2, F2⟩
  · have key : mkA a = sNextA a p B K := by
      have n0 : ¬ a.1 9 = 0 := by rcases k2 with q | q | q <;> rw [q] <;> decide
      rw [mkA, if_neg n0, if_pos k2, hBK, xN_of hp (by omega)]; rfl
    rw [key]
    rcases k2 with k2 | k2 | k2
    · refine E_aload_n dX4_makeMessage_0 rfl ?_
      refine E_getR dX4_makeMessage_1 fl_X4_12 rfl r425 rfl ?_
      refine E_getI dX4_makeMessage_4 fl_X4_150 rfl rfl ?_
      rw [e9, k2]
      refine E_tabIn 62 dX4_makeMessage_7 (by decide) (by decide) rfl (by decide) ?_
      refine E_aload_n dX4_makeMessage_62 rfl ?_
      refine E_getR dX4_makeMessage_63 fl_X4_41 rfl r423 rfl ?_
      refine E_aload_n dX4_makeMessage_66 rfl ?_
      refine E_getR dX4_makeMessage_67 fl_X4_12 rfl r425 rfl ?_
      refine cV1 (N := mX5_makeNext) dX4_makeMessage_70 cn_X5_makeNext lk_X4_157 ⟨Nat.le_of_ble_eq_true rfl, Nat.le_of_ble_eq_true rfl⟩ rfl rfl (Nat.le_of_ble_eq_true rfl) ⟨rfl, rfl⟩ (c_sNext C hBK hB2 hK2 hp hp2) (fun v2 h2 ⟨hv2, C2, F2⟩ => ?_)
      rw [hv2]
      refine E_goto 100 dX4_makeMessage_73 (by decide) ?_
      exact E_retv dX4_makeMessage_100 rfl (Nat.le_of_ble_eq_true rfl) (Nat.le_of_ble_eq_true rfl) ⟨rfl, rfl, C2, F2⟩
    · refine E_aload_n dX4_makeMessage_0 rfl ?_
      refine E_getR dX4_makeMessage_1 fl_X4_12 rfl r425 rfl ?_
      refine E_getI dX4_makeMessage_4 fl_X4_150 rfl rfl ?_
      rw [e9, k2]
      refine E_tabIn 62 dX4_makeMessage_7 (by decide) (by decide) rfl (by decide) ?_
      refine E_aload_n dX4_makeMessage_62 rfl ?_
      refine E_getR dX4_makeMessage_63 fl_X4_41 rfl r423 rfl ?_
      refine E_aload_n dX4_makeMessage_66 rfl ?_
      refine E_getR dX4_makeMessage_67 fl_X4_12 rfl r425 rfl ?_
      refine cV1 (N := mX5_makeNext) dX4_makeMessage_70 cn_X5_makeNext lk_X4_157 ⟨Nat.le_of_ble_eq_true rfl, Nat.le_of_ble_eq_true rfl⟩ rfl rfl (Nat.le_of_ble_eq_true rfl) ⟨rfl, rfl⟩ (c_sNext C hBK hB2 hK2 hp hp2) (fun v2 h2 ⟨hv2, C2, F2⟩ => ?_)
      rw [hv2]
      refine E_goto 100 dX4_makeMessage_73 (by decide) ?_
      exact E_retv dX4_makeMessage_100 rfl (Nat.le_of_ble_eq_true rfl) (Nat.le_of_ble_eq_true rfl) ⟨rfl, rfl, C2, F2⟩
    · refine E_aload_n dX4_makeMessage_0 rfl ?_
      refine E_getR dX4_makeMessage_1 fl_X4_12 rfl r425 rfl ?_
      refine E_getI dX4_makeMessage_4 fl_X4_150 rfl rfl ?_
      rw [e9, k2]
      refine E_tabIn 62 dX4_makeMessage_7 (by decide) (by decide) rfl (by decide) ?_
      refine E_aload_n dX4_makeMessage_62 rfl ?_
      refine E_getR dX4_makeMessage_63 fl_X4_41 rfl r423 rfl ?_
      refine E_aload_n dX4_makeMessage_66 rfl ?_
      refine E_getR dX4_makeMessage_67 fl_X4_12 rfl r425 rfl ?_
      refine cV1 (N := mX5_makeNext) dX4_makeMessage_70 cn_X5_makeNext lk_X4_157 ⟨Nat.le_of_ble_eq_true rfl, Nat.le_of_ble_eq_true rfl⟩ rfl rfl (Nat.le_of_ble_eq_true rfl) ⟨rfl, rfl⟩ (c_sNext C hBK hB2 hK2 hp hp2) (fun v2 h2 ⟨hv2, C2, F2⟩ => ?_)
      rw [hv2]
      refine E_goto 100 dX4_makeMessage_73 (by decide) ?_
      exact E_retv dX4_makeMessage_100 rfl (Nat.le_of_ble_eq_true rfl) (Nat.le_of_ble_eq_true rfl) ⟨rfl, rfl, C2, F2⟩
  · have key : mkA a = aI (aI a 9 7) 10 1 := by
      rw [mkA, if_neg (by rw [k6]; decide), if_neg (by rw [k6]; decide), if_pos k6]
    rw [key]
    refine E_aload_n dX4_makeMessage_0 rfl ?_
    refine E_getR dX4_makeMessage_1 fl_X4_12 rfl r425 rfl ?_
    refine E_getI dX4_makeMessage_4 fl_X4_150 rfl rfl ?_
    rw [e9, k6]
    refine E_tabIn 76 dX4_makeMessage_7 (by decide) (by decide) rfl (by decide) ?_
    refine E_aload_n dX4_makeMessage_76 rfl ?_
    refine E_getR dX4_makeMessage_77 fl_X4_12 rfl r425 rfl ?_
    refine E_bi 7 dX4_makeMessage_80 (by decide) ?_
    refine E_ic 1 dX4_makeMessage_82 (by decide) ?_
    refine cV2 (N := mX1_become) dX4_makeMessage_83 cn_X1_become lk_X4_61 ⟨Nat.le_of_ble_eq_true rfl, Nat.le_of_ble_eq_true rfl⟩ rfl rfl (Nat.le_of_ble_eq_true rfl) ⟨rfl, rfl⟩ (c_become rfl _ _) (fun v2 h2 ⟨hv2, hh2⟩ => ?_)
    rw [hv2, hh2]
    refine E_goto 100 dX4_makeMessage_86 (by decide) ?_
    have C2 := C.setI 9 7 (by decide) (by decide)
    have C3 := C2.setI 10 1 (by decide) (by decide)
    exact E_retv dX4_makeMessage_100 rfl (Nat.le_of_ble_eq_true rfl) (Nat.le_of_ble_eq_true rfl) ⟨rfl, rfl, C3, CF_sI (CF_sI CF.rf (by decide)) (by decide)⟩
  · have key : mkA a = if 0 < (a.2.2.1 0).length then rAsk a else rSums a B K := by
      rw [mkA, if_neg (by rcases kd with q | q | q | q <;> rw [q] <;> decide), if_neg (by rcases kd with q | q | q | q <;> rw [q] <;> decide), if_neg (by rcases kd with q | q | q | q <;> rw [q] <;> decide), xN_of hB (by omega), hK, nI_clamp (by omega)]
    rw [key]
    have go : E mX4_makeMessage none (fun v sh' h' => sh' = SH ∧ v = none ∧ CRep (if 0 < (a.2.2.1 0).length then rAsk a else rSums a B K) h' ∧ CF h h') 89 [some (.ref 42)] [] SH h 0 0 := by
      by_cases hw : 0 < (a.2.2.1 0).length
      · rw [if_pos hw]
        refine E_aload_n dX4_makeMessage_89 rfl ?_
        refine E_getR dX4_makeMessage_90 fl_X4_48 rfl r424 rfl ?_
        refine E_aload_n dX4_makeMessage_93 rfl ?_
        refine E_getR dX4_makeMessage_94 fl_X4_12 rfl r425 rfl ?_
        refine cV1 (N := mX2_makeNext) dX4_makeMessage_97 cn_X2_makeNext lk_X4_160 ⟨Nat.le_of_ble_eq_true rfl, Nat.le_of_ble_eq_true rfl⟩ rfl rfl (Nat.le_of_ble_eq_true rfl) ⟨rfl, rfl⟩ (c_rAsk C hw) (fun v2 h2 ⟨hv2, C2, F2⟩ => ?_)
        rw [hv2]
        exact E_retv dX4_makeMessage_100 rfl (Nat.le_of_ble_eq_true rfl) (Nat.le_of_ble_eq_true rfl) ⟨rfl, rfl, C2, F2⟩
      · rw [if_neg hw]
        refine E_aload_n dX4_makeMessage_89 rfl ?_
        refine E_getR dX4_makeMessage_90 fl_X4_48 rfl r424 rfl ?_
        refine E_aload_n dX4_makeMessage_93 rfl ?_
        refine E_getR dX4_makeMessage_94 fl_X4_12 rfl r425 rfl ?_
        refine cV1 (N := mX2_makeNext) dX4_makeMessage_97 cn_X2_makeNext lk_X4_160 ⟨Nat.le_of_ble_eq_true rfl, Nat.le_of_ble_eq_true rfl⟩ rfl rfl (Nat.le_of_ble_eq_true rfl) ⟨rfl, rfl⟩ (c_rSums C (by omega) hB hB0 hB2 hK hK2) (fun v2 h2 ⟨hv2, C2, F2⟩ => ?_)
        rw [hv2]
        exact E_retv dX4_makeMessage_100 rfl (Nat.le_of_ble_eq_true rfl) (Nat.le_of_ble_eq_true rfl) ⟨rfl, rfl, C2, F2⟩
    rcases kd with kd | kd | kd | kd
    · refine E_aload_n dX4_makeMessage_0 rfl ?_
      refine E_getR dX4_makeMessage_1 fl_X4_12 rfl r425 rfl ?_
      refine E_getI dX4_makeMessage_4 fl_X4_150 rfl rfl ?_
      rw [e9, kd]
      refine E_tabOut 89 dX4_makeMessage_7 (by decide) (by decide) ?_
      exact go
    · refine E_aload_n dX4_makeMessage_0 rfl ?_
      refine E_getR dX4_makeMessage_1 fl_X4_12 rfl r425 rfl ?_
      refine E_getI dX4_makeMessage_4 fl_X4_150 rfl rfl ?_
      rw [e9, kd]
      refine E_tabIn 89 dX4_makeMessage_7 (by decide) (by decide) rfl (by decide) ?_
      exact go
    · refine E_aload_n dX4_makeMessage_0 rfl ?_
      refine E_getR dX4_makeMessage_1 fl_X4_12 rfl r425 rfl ?_
      refine E_getI dX4_makeMessage_4 fl_X4_150 rfl rfl ?_
      rw [e9, kd]
      refine E_tabIn 89 dX4_makeMessage_7 (by decide) (by decide) rfl (by decide) ?_
      exact go
    · refine E_aload_n dX4_makeMessage_0 rfl ?_
      refine E_getR dX4_makeMessage_1 fl_X4_12 rfl r425 rfl ?_
      refine E_getI dX4_makeMessage_4 fl_X4_150 rfl rfl ?_
      rw [e9, kd]
      refine E_tabOut 89 dX4_makeMessage_7 (by decide) (by decide) ?_
      exact go
/-- a MESSAGE is sent: who, how many bytes, whether it comes -/
def emEnd (a : Ab) : Int32 := if a.1 9 = 0 ∨ a.1 9 = 2 ∨ a.1 9 = 7 then 1 - a.1 1 else a.1 1
def emK (a : Ab) : Ab := if a.1 9 = 2 then aI (aI (aI a 5 (a.1 5 + 1)) 8 (a.1 9)) 7 (nI ((a.2.2.1 3).getD 1 0)) else aI (aI a 5 (a.1 5 + 1)) 8 (a.1 9)
def emA (a : Ab) : Ab := aI (aL (if emEnd a = 0 then aL (emK a) 1 (a.2.1 1 + (a.1 10).toInt64) else aL (emK a) 2 (a.2.1 2 + (a.1 10).toInt64)) 0 (ushr1 (a.2.1 0))) 2 (if a.2.1 0 &&& 1 = 0 then 0 else 1)
theorem emK_i (a : Ab) {k : Nat} (h1 : k ≠ 5) (h2 : k ≠ 7) (h3 : k ≠ 8) : (emK a).1 k = a.1 k := by
  unfold emK
  split <;> simp [aI, va_up, h1, h2, h3]
theorem emK_2 (a : Ab) : (emK a).2 = a.2 := by unfold emK; split <;> rfl
theorem c_emit {a : Ab} {h : Hp} (C : CRep a h) : Sp0 mX4_emit [.ref 42] SH h (fun v h' => v = none ∧ CRep (emA a) h' ∧ CF h h') := by
  obtain ⟨r00, r01, r02, r03, r420, r421, r422, r423, r424, r425, r430, r431, r490, r491, r530, r531, r532, r533, r534⟩ := id C.2.2.1
  have e5 : h.1 42 11 = a.1 5 := C.1 5 (by decide)
  have e9 : h.1 43 2 = a.1 9 := C.1 9 (by decide)
  have C1 : CRep (aI a 5 (a.1 5 + 1)) (sI h 42 11 (a.1 5 + 1)) := C.setI 5 (a.1 5 + 1) (by decide) (by decide)
  have F1 : CF h (sI h 42 11 (a.1 5 + 1)) := CF_sI CF.rf (by decide)
  have C2 : CRep (aI (aI a 5 (a.1 5 + 1)) 8 (a.1 9)) (sI (sI h 42 11 (a.1 5 + 1)) 42 14 (a.1 9)) := C1.setI 8 (a.1 9) (by decide) (by decide)
  have F2 : CF h (sI (sI h 42 11 (a.1 5 + 1)) 42 14 (a.1 9)) := CF_sI F1 (by decide)
  have tail : ∀ h3 : Hp, CRep (emK a) h3 → CF h h3 → E mX4_emit none (fun v sh' h' => sh' = SH ∧ v = none ∧ CRep (emA a) h' ∧ CF h h') 46 [some (.ref 42)] [] SH h3 0 0 := by
    intro h3 C3 F3
    obtain ⟨q00, q01, q02, q03, q420, q421, q422, q423, q424, q425, q430, q431, q490, q491, q530, q531, q532, q533, q534⟩ := id C3.2.2.1
    have g9 : h3.1 43 2 = a.1 9 := (C3.1 9 (by decide)).trans (emK_i a (by decide) (by decide) (by decide))
    have g1 : h3.1 42 7 = a.1 1 := (C3.1 1 (by decide)).trans (emK_i a (by decide) (by decide) (by decide))
    have g10 : h3.1 43 3 = a.1 10 := (C3.1 10 (by decide)).trans (emK_i a (by decide) (by decide) (by decide))
    have m0 : h3.2.1 41 0 = a.2.1 0 := (C3.2.1 0 (by decide)).trans (by rw [emK_2])
    have m1 : h3.2.1 41 1 = a.2.1 1 := (C3.2.1 1 (by decide)).trans (by rw [emK_2])
    have m2 : h3.2.1 41 2 = a.2.1 2 := (C3.2.1 2 (by decide)).trans (by rw [emK_2])
    have fin : ∀ h4 : Hp, CRep (aL (if emEnd a = 0 then aL (emK a) 1 (a.2.1 1 + (a.1 10).toInt64) else aL (emK a) 2 (a.2.1 2 + (a.1 10).toInt64)) 0 (ushr1 (a.2.1 0))) h4 → CF h h4 → E mX4_emit none (fun v sh' h' => sh' = SH ∧ v = none ∧ CRep (emA a) h' ∧ CF h h') 84 [some (.ref 42)] [.int (if a.2.1 0 &&& 1 = 0 then 1 else 0), .ref 42] SH h4 0 0 := by
      intro h4 C4 F4
      unfold emA
      by_cases hc : a.2.1 0 &&& 1 = 0
      · rw [if_pos hc, if_pos hc]
        refine E_if_ne 91 dX4_emit_84 (by decide) (fun c_84 => ?_) (fun c_84 => absurd c_84 (by decide))
        refine E_ic 0 dX4_emit_91 (by decide) ?_
        refine E_putZ dX4_emit_92 fl_X4_65 rfl rfl (Or.inl rfl) ?_
        have C5 := C4.setI 2 0 (by decide) (by decide)
        exact E_retv dX4_emit_95 rfl (Nat.le_of_ble_eq_true rfl) (Nat.le_of_ble_eq_true rfl) ⟨rfl, rfl, C5, CF_sI F4 (by decide)⟩
      · rw [if_neg hc, if_neg hc]
        refine E_if_ne 91 dX4_emit_84 (by decide) (fun c_84 => absurd rfl c_84) (fun c_84 => ?_)
        refine E_ic 1 dX4_emit_87 (by decide) ?_
        refine E_goto 92 dX4_emit_88 (by decide) ?_
        refine E_putZ dX4_emit_92 fl_X4_65 rfl rfl (Or.inr rfl) ?_
        have C5 := C4.setI 2 1 (by decide) (by decide)
        exact E_retv dX4_emit_95 rfl (Nat.le_of_ble_eq_true rfl) (Nat.le_of_ble_eq_true rfl) ⟨rfl, rfl, C5, CF_sI F4 (by decide)⟩
    have car : ∀ e : Int32, e = emEnd a → E mX4_emit none (fun v sh' h' => sh' = SH ∧ v = none ∧ CRep (emA a) h' ∧ CF h h') 74 [some (.ref 42)] [.int e, .ref 41, .ref 42] SH h3 0 0 := by
      intro e he
      subst he
      refine E_aload_n dX4_emit_74 rfl ?_
      refine E_getR dX4_emit_75 fl_X4_12 rfl q425 rfl ?_
      refine E_getI dX4_emit_78 fl_X4_169 rfl rfl ?_
      rw [g10]
      refine cV2 (N := mX0_carry) dX4_emit_81 cn_X0_carry lk_X4_172 ⟨Nat.le_of_ble_eq_true rfl, Nat.le_of_ble_eq_true rfl⟩ rfl rfl (Nat.le_of_ble_eq_true rfl) ⟨rfl, rfl⟩ (c_carry rfl _ _) (fun v5 h5 ⟨hv5, hh5⟩ => ?_)
      rw [hv5, hh5, m0, m1, m2]
      by_cases hz : emEnd a = 0
      · have D1 := C3.setL 1 (a.2.1 1 + (a.1 10).toInt64) (by decide)
        have D2 := D1.setL 0 (ushr1 (a.2.1 0)) (by decide)
        rw [if_pos hz]
        refine fin _ ?_ (CF_sL (CF_sL F3 (by decide)) (by decide))
        rw [if_pos hz]
        exact D2
      · have D1 := C3.setL 2 (a.2.1 2 + (a.1 10).toInt64) (by decide)
        have D2 := D1.setL 0 (ushr1 (a.2.1 0)) (by decide)
        rw [if_neg hz]
        refine fin _ ?_ (CF_sL (CF_sL F3 (by decide)) (by decide))
        rw [if_neg hz]
        exact D2
    by_cases hT : a.1 9 = 0 ∨ a.1 9 = 2 ∨ a.1 9 = 7
    · refine E_aload_n dX4_emit_46 rfl ?_
      refine E_aload_n dX4_emit_47 rfl ?_
      refine E_getR dX4_emit_48 fl_X4_32 rfl q422 rfl ?_
      refine E_aload_n dX4_emit_51 rfl ?_
      refine E_getR dX4_emit_52 fl_X4_12 rfl q425 rfl ?_
      refine cV0 (N := mX1_isByTarget) dX4_emit_55 cn_X1_isByTarget lk_X4_165 ⟨Nat.le_of_ble_eq_true rfl, Nat.le_of_ble_eq_true rfl⟩ rfl rfl (Nat.le_of_ble_eq_true rfl) ⟨rfl, rfl⟩ (c_isByTarget rfl) (fun v4 h4 ⟨hv4, hh4⟩ => ?_)
      rw [hv4, hh4, g9, if_pos hT]
      refine E_if_eq 70 dX4_emit_58 (by decide) (fun c_58 => absurd c_58 (by decide)) (fun c_58 => ?_)
      refine E_ic 1 dX4_emit_61 (by decide) ?_
      refine E_aload_n dX4_emit_62 rfl ?_
      refine E_getI dX4_emit_63 fl_X4_52 rfl rfl ?_
      rw [g1]
      refine E_isub dX4_emit_66 ?_
      refine E_goto 74 dX4_emit_67 (by decide) ?_
      exact car _ (by rw [emEnd, if_pos hT])
    · refine E_aload_n dX4_emit_46 rfl ?_
      refine E_aload_n dX4_emit_47 rfl ?_
      refine E_getR dX4_emit_48 fl_X4_32 rfl q422 rfl ?_
      refine E_aload_n dX4_emit_51 rfl ?_
      refine E_getR dX4_emit_52 fl_X4_12 rfl q425 rfl ?_
      refine cV0 (N := mX1_isByTarget) dX4_emit_55 cn_X1_isByTarget lk_X4_165 ⟨Nat.le_of_ble_eq_true rfl, Nat.le_of_ble_eq_true rfl⟩ rfl rfl (Nat.le_of_ble_eq_true rfl) ⟨rfl, rfl⟩ (c_isByTarget rfl) (fun v4 h4 ⟨hv4, hh4⟩ => ?_)
      rw [hv4, hh4, g9, if_neg hT]
      refine E_if_eq 70 dX4_emit_58 (by decide) (fun c_58 => ?_) (fun c_58 => absurd rfl c_58)
      refine E_aload_n dX4_emit_70 rfl ?_
      refine E_getI dX4_emit_71 fl_X4_52 rfl rfl ?_
      rw [g1]
      exact car _ (by rw [emEnd, if_neg hT])
  refine Sp0.of (by decide) (Nat.le_of_ble_eq_true rfl) ?_
  show E mX4_emit none _ 0 [some (.ref 42)] [] SH h 0 0
  obtain ⟨B0, K0, hBK, S0⟩ := C2.2.2.2.2.2.2.2.2.2.2.1
  have hBK' : a.2.2.1 3 = [B0, K0] := hBK
  have g9 : (sI (sI h 42 11 (a.1 5 + 1)) 42 14 (a.1 9)).1 43 2 = a.1 9 := C2.1 9 (by decide)
  have g9' : (sI h 42 11 (a.1 5 + 1)).1 43 2 = a.1 9 := C1.1 9 (by decide)
  refine E_aload_n dX4_emit_0 rfl ?_
  refine E_dup rfl dX4_emit_1 ?_
  refine E_getI dX4_emit_2 fl_X4_75 rfl rfl ?_
  rw [e5]
  refine E_ic 1 dX4_emit_5 (by decide) ?_
  refine E_iadd dX4_emit_6 ?_
  refine E_putI dX4_emit_7 fl_X4_75 rfl rfl ?_
  refine E_aload_n dX4_emit_10 rfl ?_
  refine E_aload_n dX4_emit_11 rfl ?_
  refine E_getR dX4_emit_12 fl_X4_12 rfl r425 rfl ?_
  refine E_getI dX4_emit_15 fl_X4_150 rfl rfl ?_
  rw [g9']
  refine E_putI dX4_emit_18 fl_X4_22 rfl rfl ?_
  refine E_aload_n dX4_emit_21 rfl ?_
  refine E_getR dX4_emit_22 fl_X4_12 rfl r425 rfl ?_
  refine E_getI dX4_emit_25 fl_X4_150 rfl rfl ?_
  refine E_ic 2 dX4_emit_28 (by decide) ?_
  rw [g9]
  refine E_icmp_ne 46 dX4_emit_29 (by decide) (fun c_29 => ?_) (fun c_29 => ?_)
  · exact tail _ (by rw [emK, if_neg c_29]; exact C2) F2
  · refine E_aload_n dX4_emit_32 rfl ?_
    refine E_aload_n dX4_emit_33 rfl ?_
    refine E_getR dX4_emit_34 fl_X4_12 rfl r425 rfl ?_
    refine E_getR dX4_emit_37 fl_X4_161 rfl r431 rfl ?_
    refine cV0 (N := mX7_k) dX4_emit_40 cn_X7_k lk_X4_162 ⟨Nat.le_of_ble_eq_true rfl, Nat.le_of_ble_eq_true rfl⟩ rfl rfl (Nat.le_of_ble_eq_true rfl) ⟨rfl, rfl⟩ (c_Sums_k rfl) (fun v3 h3 ⟨hv3, hh3⟩ => ?_)
    rw [hv3, hh3, S0.2.2.2.2.2.2.2.2.1]
    refine E_putI dX4_emit_43 fl_X4_81 rfl rfl ?_
    have C3 := C2.setI 7 (nI K0) (by decide) (by decide)
    exact tail _ (by rw [emK, if_pos c_29, hBK']; exact C3) (CF_sI F2 (by decide))
end
section
/-! Run: a STEP -/
def tkA (a : Ab) : Ab := if a.1 9 = 1 then takeNodeA a (xN a 11) (a.2.1 3) else if a.1 9 = 2 then sTakeA a else if a.1 9 = 3 then takeGoneA a (xN a 19) else if a.1 9 = 4 then takeBytesA a else if a.1 9 = 5 then takeBlockA a (xN a 11) (xN a 16) (xN a 19) else if a.1 9 = 6 then takeEndA a (a.2.1 3) (xN a 19) else a
def TkPre (a : Ab) : Prop := (a.1 9 = 1 ∧ ∃ x, 1 ≤ x ∧ x < 16 ∧ a.1 11 = nI x ∧ (a.2.2.1 0).length + 2 ≤ 16) ∨ a.1 9 = 2 ∨ (a.1 9 = 3 ∧ ∃ f, f < 8 ∧ a.1 19 = nI f) ∨ a.1 9 = 4 ∨ (a.1 9 = 5 ∧ ∃ j B f, j ≤ 500 ∧ a.1 11 = nI j ∧ a.1 16 = nI B ∧ B ≤ 64 ∧ f < 8 ∧ a.1 19 = nI f) ∨ (a.1 9 = 6 ∧ ∃ f, f < 8 ∧ a.1 19 = nI f) ∨ a.1 9 = 0 ∨ a.1 9 = 7
theorem c_takeMessage {a : Ab} {h : Hp} (C : CRep a h) (P : TkPre a) : Sp0 mX4_takeMessage [.ref 42] SH h (fun v h' => v = none ∧ CRep (tkA a) h' ∧ CF h h') := by
  obtain ⟨r00, r01, r02, r03, r420, r421, r422, r423, r424, r425, r430, r431, r490, r491, r530, r531, r532, r533, r534⟩ := id C.2.2.1
  have e9 : h.1 43 2 = a.1 9 := C.1 9 (by decide)
  have e11 : h.1 43 4 = a.1 11 := C.1 11 (by decide)
  have l3 : h.2.1 43 5 = a.2.1 3 := C.2.1 3 (by decide)
  refine Sp0.of (by decide) (Nat.le_of_ble_eq_true rfl) ?_
  show E mX4_takeMessage none _ 0 [some (.ref 42)] [] SH h 0 0
  rcases P with ⟨kd, x, x1, x2, hx, hw⟩ | kd | ⟨kd, f, hf, hF⟩ | kd | ⟨kd, j, B, f, hj, hJ, hB, hB2, hf, hF⟩ | ⟨kd, f, hf, hF⟩ | kd | kd
  · refine E_aload_n dX4_takeMessage_0 rfl ?_
    refine E_getR dX4_takeMessage_1 fl_X4_12 rfl r425 rfl ?_
    refine E_getI dX4_takeMessage_4 fl_X4_150 rfl rfl ?_
    rw [e9, kd]
    refine E_tabIn 44 dX4_takeMessage_7 (by decide) (by decide) rfl (by decide) ?_
    refine E_aload_n dX4_takeMessage_44 rfl ?_
    refine E_getR dX4_takeMessage_45 fl_X4_48 rfl r424 rfl ?_
    refine E_aload_n dX4_takeMessage_48 rfl ?_
    refine E_getR dX4_takeMessage_49 fl_X4_12 rfl r425 rfl ?_
    refine E_getI dX4_takeMessage_52 fl_X4_178 rfl rfl ?_
    refine E_aload_n dX4_takeMessage_55 rfl ?_
    refine E_getR dX4_takeMessage_56 fl_X4_12 rfl r425 rfl ?_
    refine E_getL dX4_takeMessage_59 fl_X4_181 rfl rfl ?_
    rw [e11, l3, hx]
    refine cV2 (N := mX2_takeNode) dX4_takeMessage_62 cn_X2_takeNode lk_X4_185 ⟨Nat.le_of_ble_eq_true rfl, Nat.le_of_ble_eq_true rfl⟩ rfl rfl (Nat.le_of_ble_eq_true rfl) ⟨rfl, rfl⟩ (c_takeNode C _ x1 x2 hw) (fun v2 h2 ⟨hv2, C2, F2⟩ => ?_)
    rw [hv2]
    refine E_goto 153 dX4_takeMessage_65 (by decide) ?_
    exact E_retv dX4_takeMessage_153 rfl (Nat.le_of_ble_eq_true rfl) (Nat.le_of_ble_eq_true rfl) ⟨rfl, rfl, by rw [tkA, if_pos kd, xN_of hx (by omega)]; exact C2, F2⟩
  · refine E_aload_n dX4_takeMessage_0 rfl ?_
    refine E_getR dX4_takeMessage_1 fl_X4_12 rfl r425 rfl ?_
    refine E_getI dX4_takeMessage_4 fl_X4_150 rfl rfl ?_
    rw [e9, kd]
    refine E_tabIn 68 dX4_takeMessage_7 (by decide) (by decide) rfl (by decide) ?_
    refine E_aload_n dX4_takeMessage_68 rfl ?_
    refine E_getR dX4_takeMessage_69 fl_X4_41 rfl r423 rfl ?_
    refine E_aload_n dX4_takeMessage_72 rfl ?_
    refine E_getR dX4_takeMessage_73 fl_X4_12 rfl r425 rfl ?_
    refine E_getI dX4_takeMessage_76 fl_X4_178 rfl rfl ?_
    refine E_aload_n dX4_takeMessage_79 rfl ?_
    refine E_getR dX4_takeMessage_80 fl_X4_12 rfl r425 rfl ?_
    refine E_getR dX4_takeMessage_83 fl_X4_161 rfl r431 rfl ?_
    rw [e11]
    refine cV2 (N := mX5_takeSums) dX4_takeMessage_86 cn_X5_takeSums lk_X4_189 ⟨Nat.le_of_ble_eq_true rfl, Nat.le_of_ble_eq_true rfl⟩ rfl rfl (Nat.le_of_ble_eq_true rfl) ⟨rfl, rfl⟩ (c_sTake C) (fun v2 h2 ⟨hv2, C2, F2⟩ => ?_)
    rw [hv2]
    refine E_goto 153 dX4_takeMessage_89 (by decide) ?_
    exact E_retv dX4_takeMessage_153 rfl (Nat.le_of_ble_eq_true rfl) (Nat.le_of_ble_eq_true rfl) ⟨rfl, rfl, by rw [tkA, if_neg (by rw [kd]; decide), if_pos kd]; exact C2, F2⟩
  · refine E_aload_n dX4_takeMessage_0 rfl ?_
    refine E_getR dX4_takeMessage_1 fl_X4_12 rfl r425 rfl ?_
    refine E_getI dX4_takeMessage_4 fl_X4_150 rfl rfl ?_
    rw [e9, kd]
    refine E_tabIn 92 dX4_takeMessage_7 (by decide) (by decide) rfl (by decide) ?_
    refine E_aload_n dX4_takeMessage_92 rfl ?_
    refine E_getR dX4_takeMessage_93 fl_X4_48 rfl r424 rfl ?_
    refine cV0 (N := mX2_takeGone) dX4_takeMessage_96 cn_X2_takeGone lk_X4_193 ⟨Nat.le_of_ble_eq_true rfl, Nat.le_of_ble_eq_true rfl⟩ rfl rfl (Nat.le_of_ble_eq_true rfl) ⟨rfl, rfl⟩ (c_takeGone C hf hF) (fun v2 h2 ⟨hv2, C2, F2⟩ => ?_)
    rw [hv2]
    refine E_goto 153 dX4_takeMessage_99 (by decide) ?_
    exact E_retv dX4_takeMessage_153 rfl (Nat.le_of_ble_eq_true rfl) (Nat.le_of_ble_eq_true rfl) ⟨rfl, rfl, by rw [tkA, if_neg (by rw [kd]; decide), if_neg (by rw [kd]; decide), if_pos kd, xN_of hF (by omega)]; exact C2, F2⟩
  · refine E_aload_n dX4_takeMessage_0 rfl ?_
    refine E_getR dX4_takeMessage_1 fl_X4_12 rfl r425 rfl ?_
    refine E_getI dX4_takeMessage_4 fl_X4_150 rfl rfl ?_
    rw [e9, kd]
    refine E_tabIn 102 dX4_takeMessage_7 (by decide) (by decide) rfl (by decide) ?_
    refine E_aload_n dX4_takeMessage_102 rfl ?_
    refine E_getR dX4_takeMessage_103 fl_X4_48 rfl r424 rfl ?_
    refine E_aload_n dX4_takeMessage_106 rfl ?_
    refine E_getR dX4_takeMessage_107 fl_X4_12 rfl r425 rfl ?_
    refine E_getR dX4_takeMessage_110 fl_X4_196 rfl r430 rfl ?_
    refine cV1 (N := mX2_takeBytes) dX4_takeMessage_113 cn_X2_takeBytes lk_X4_199 ⟨Nat.le_of_ble_eq_true rfl, Nat.le_of_ble_eq_true rfl⟩ rfl rfl (Nat.le_of_ble_eq_true rfl) ⟨rfl, rfl⟩ (c_takeBytes C) (fun v2 h2 ⟨hv2, C2, F2⟩ => ?_)
    rw [hv2]
    refine E_goto 153 dX4_takeMessage_116 (by decide) ?_
    exact E_retv dX4_takeMessage_153 rfl (Nat.le_of_ble_eq_true rfl) (Nat.le_of_ble_eq_true rfl) ⟨rfl, rfl, by rw [tkA, if_neg (by rw [kd]; decide), if_neg (by rw [kd]; decide), if_neg (by rw [kd]; decide), if_pos kd]; exact C2, F2⟩
  · refine E_aload_n dX4_takeMessage_0 rfl ?_
    refine E_getR dX4_takeMessage_1 fl_X4_12 rfl r425 rfl ?_
    refine E_getI dX4_takeMessage_4 fl_X4_150 rfl rfl ?_
    rw [e9, kd]
    refine E_tabIn 119 dX4_takeMessage_7 (by decide) (by decide) rfl (by decide) ?_
    refine E_aload_n dX4_takeMessage_119 rfl ?_
    refine E_getR dX4_takeMessage_120 fl_X4_48 rfl r424 rfl ?_
    refine E_aload_n dX4_takeMessage_123 rfl ?_
    refine E_getR dX4_takeMessage_124 fl_X4_12 rfl r425 rfl ?_
    refine E_getI dX4_takeMessage_127 fl_X4_178 rfl rfl ?_
    rw [e11, hJ]
    refine cV1 (N := mX2_takeBlock) dX4_takeMessage_130 cn_X2_takeBlock lk_X4_203 ⟨Nat.le_of_ble_eq_true rfl, Nat.le_of_ble_eq_true rfl⟩ rfl rfl (Nat.le_of_ble_eq_true rfl) ⟨rfl, rfl⟩ (c_takeBlock C hj hB hB2 hf hF) (fun v2 h2 ⟨hv2, C2, F2⟩ => ?_)
    rw [hv2]
    refine E_goto 153 dX4_takeMessage_133 (by decide) ?_
    exact E_retv dX4_takeMessage_153 rfl (Nat.le_of_ble_eq_true rfl) (Nat.le_of_ble_eq_true rfl) ⟨rfl, rfl, by rw [tkA, if_neg (by rw [kd]; decide), if_neg (by rw [kd]; decide), if_neg (by rw [kd]; decide), if_neg (by rw [kd]; decide), if_pos kd, xN_of hF (by omega), xN_of hB (by omega), xN_of hJ (by omega)]; exact C2, F2⟩
  · refine E_aload_n dX4_takeMessage_0 rfl ?_
    refine E_getR dX4_takeMessage_1 fl_X4_12 rfl r425 rfl ?_
    refine E_getI dX4_takeMessage_4 fl_X4_150 rfl rfl ?_
    rw [e9, kd]
    refine E_tabIn 136 dX4_takeMessage_7 (by decide) (by decide) rfl (by decide) ?_
    refine E_aload_n dX4_takeMessage_136 rfl ?_
    refine E_getR dX4_takeMessage_137 fl_X4_48 rfl r424 rfl ?_
    refine E_aload_n dX4_takeMessage_140 rfl ?_
    refine E_getR dX4_takeMessage_141 fl_X4_12 rfl r425 rfl ?_
    refine E_getL dX4_takeMessage_144 fl_X4_181 rfl rfl ?_
    rw [l3]
    refine cV1 (N := mX2_takeEnd) dX4_takeMessage_147 cn_X2_takeEnd lk_X4_207 ⟨Nat.le_of_ble_eq_true rfl, Nat.le_of_ble_eq_true rfl⟩ rfl rfl (Nat.le_of_ble_eq_true rfl) ⟨rfl, rfl⟩ (c_takeEnd C _ hf hF) (fun v2 h2 ⟨hv2, C2, F2⟩ => ?_)
    rw [hv2]
    refine E_goto 153 dX4_takeMessage_150 (by decide) ?_
    exact E_retv dX4_takeMessage_153 rfl (Nat.le_of_ble_eq_true rfl) (Nat.le_of_ble_eq_true rfl) ⟨rfl, rfl, by rw [tkA, if_neg (by rw [kd]; decide), if_neg (by rw [kd]; decide), if_neg (by rw [kd]; decide), if_neg (by rw [kd]; decide), if_neg (by rw [kd]; decide), if_pos kd, xN_of hF (by omega)]; exact C2, F2⟩
  · refine E_aload_n dX4_takeMessage_0 rfl ?_
    refine E_getR dX4_takeMessage_1 fl_X4_12 rfl r425 rfl ?_
    refine E_getI dX4_takeMessage_4 fl_X4_150 rfl rfl ?_
    rw [e9, kd]
    refine E_tabOut 153 dX4_takeMessage_7 (by decide) (by decide) ?_
    exact E_retv dX4_takeMessage_153 rfl (Nat.le_of_ble_eq_true rfl) (Nat.le_of_ble_eq_true rfl) ⟨rfl, rfl, by rw [tkA, if_neg (by rw [kd]; decide), if_neg (by rw [kd]; decide), if_neg (by rw [kd]; decide), if_neg (by rw [kd]; decide), if_neg (by rw [kd]; decide), if_neg (by rw [kd]; decide)]; exact C, CF.rf⟩
  · refine E_aload_n dX4_takeMessage_0 rfl ?_
    refine E_getR dX4_takeMessage_1 fl_X4_12 rfl r425 rfl ?_
    refine E_getI dX4_takeMessage_4 fl_X4_150 rfl rfl ?_
    rw [e9, kd]
    refine E_tabOut 153 dX4_takeMessage_7 (by decide) (by decide) ?_
    exact E_retv dX4_takeMessage_153 rfl (Nat.le_of_ble_eq_true rfl) (Nat.le_of_ble_eq_true rfl) ⟨rfl, rfl, by rw [tkA, if_neg (by rw [kd]; decide), if_neg (by rw [kd]; decide), if_neg (by rw [kd]; decide), if_neg (by rw [kd]; decide), if_neg (by rw [kd]; decide), if_neg (by rw [kd]; decide)]; exact C, CF.rf⟩
def overA (a : Ab) : Ab := aN (aF (aI a 0 2) (tg a) (dropF (a.2.2.2.2.1 1) (tF a) 8)) 1 []
def ends (a : Ab) : Prop := (a.1 9 = 1 ∨ a.1 9 = 3 ∨ a.1 9 = 7) ∧ ¬ wants a
theorem fin_tail {a : Ab} {h : Hp} (C : CRep a h) (he : ends a) : E mX4_finishIfNothingFollows none (fun v sh' h' => sh' = SH ∧ v = none ∧ ((ends a ∧ CRep (overA a) h') ∨ (¬ ends a ∧ CRep a h')) ∧ CF h h') 51 [some (.ref 42), some (.int 1)] [.int 0] SH h 0 0 := by
  obtain ⟨r00, r01, r02, r03, r420, r421, r422, r423, r424, r425, r430, r431, r490, r491, r530, r531, r532, r533, r534⟩ := id C.2.2.1
  have C1 : CRep (aI a 0 2) (sI h 42 6 2) := C.setI 0 2 (by decide) (by decide)
  have F1 : CF h (sI h 42 6 2) := CF_sI CF.rf (by decide)
  refine E_if_ne 73 dX4_finishIfNothingFollows_51 (by decide) (fun c_51 => absurd rfl c_51) (fun c_51 => ?_)
  refine E_aload_n dX4_finishIfNothingFollows_54 rfl ?_
  refine E_ic 2 dX4_finishIfNothingFollows_55 (by decide) ?_
  refine E_putI dX4_finishIfNothingFollows_56 fl_X4_18 rfl rfl ?_
  refine E_aload_n dX4_finishIfNothingFollows_59 rfl ?_
  refine E_getR dX4_finishIfNothingFollows_60 fl_X4_48 rfl r424 rfl ?_
  refine cV0 (N := mX2_dropTold) dX4_finishIfNothingFollows_63 cn_X2_dropTold lk_X4_214 ⟨Nat.le_of_ble_eq_true rfl, Nat.le_of_ble_eq_true rfl⟩ rfl rfl (Nat.le_of_ble_eq_true rfl) ⟨rfl, rfl⟩ (c_dropTold C1) (fun v2 h2 ⟨hv2, C2, F2⟩ => ?_)
  rw [hv2]
  have q424 : h2.2.2 42 4 = some 53 := C2.2.2.1.2.2.2.2.2.2.2.2.1
  refine E_aload_n dX4_finishIfNothingFollows_66 rfl ?_
  refine E_getR dX4_finishIfNothingFollows_67 fl_X4_48 rfl q424 rfl ?_
  refine cV0 (N := mX2_forgetBuilt) dX4_finishIfNothingFollows_70 cn_X2_forgetBuilt lk_X4_84 ⟨Nat.le_of_ble_eq_true rfl, Nat.le_of_ble_eq_true rfl⟩ rfl rfl (Nat.le_of_ble_eq_true rfl) ⟨rfl, rfl⟩ (c_forgetBuilt C2) (fun v3 h3 ⟨hv3, C3, F3⟩ => ?_)
  rw [hv3]
  exact E_retv dX4_finishIfNothingFollows_73 rfl (Nat.le_of_ble_eq_true rfl) (Nat.le_of_ble_eq_true rfl) ⟨rfl, rfl, Or.inl ⟨he, C3⟩, (F1.tr F2).tr F3⟩
theorem c_finish {a : Ab} {h : Hp} (C : CRep a h) : Sp0 mX4_finishIfNothingFollows [.ref 42] SH h (fun v h' => v = none ∧ ((ends a ∧ CRep (overA a) h') ∨ (¬ ends a ∧ CRep a h')) ∧ CF h h') := by
  obtain ⟨r00, r01, r02, r03, r420, r421, r422, r423, r424, r425, r430, r431, r490, r491, r530, r531, r532, r533, r534⟩ := id C.2.2.1
  have e9 : h.1 43 2 = a.1 9 := C.1 9 (by decide)
  have go : a.1 9 = 1 ∨ a.1 9 = 3 ∨ a.1 9 = 7 → E mX4_finishIfNothingFollows none (fun v sh' h' => sh' = SH ∧ v = none ∧ ((ends a ∧ CRep (overA a) h') ∨ (¬ ends a ∧ CRep a h')) ∧ CF h h') 34 [some (.ref 42), none] [] SH h 0 0 := by
    intro hk
    refine E_ic 1 dX4_finishIfNothingFollows_34 (by decide) ?_
    refine E_goto 39 dX4_finishIfNothingFollows_35 (by decide) ?_
    refine E_istore_n dX4_finishIfNothingFollows_39 (by decide) ?_
    refine E_iload_n dX4_finishIfNothingFollows_40 rfl ?_
    refine E_if_eq 73 dX4_finishIfNothingFollows_41 (by decide) (fun c_41 => absurd c_41 (by decide)) (fun c_41 => ?_)
    refine E_aload_n dX4_finishIfNothingFollows_44 rfl ?_
    refine E_getR dX4_finishIfNothingFollows_45 fl_X4_48 rfl r424 rfl ?_
    refine cV0 (N := mX2_wantsMore) dX4_finishIfNothingFollows_48 cn_X2_wantsMore lk_X4_211 ⟨Nat.le_of_ble_eq_true rfl, Nat.le_of_ble_eq_true rfl⟩ rfl rfl (Nat.le_of_ble_eq_true rfl) ⟨rfl, rfl⟩ (c_wantsMore C) (fun v2 h2 ⟨hv2, hh2⟩ => ?_)
    rw [hh2]
    rcases hv2 with ⟨hv2, hw⟩ | ⟨hv2, hw⟩
    · rw [hv2]
      refine E_if_ne 73 dX4_finishIfNothingFollows_51 (by decide) (fun c_51 => ?_) (fun c_51 => absurd c_51 (by decide))
      exact E_retv dX4_finishIfNothingFollows_73 rfl (Nat.le_of_ble_eq_true rfl) (Nat.le_of_ble_eq_true rfl) ⟨rfl, rfl, Or.inr ⟨fun q => q.2 hw, C⟩, CF.rf⟩
    · rw [hv2]
      exact fin_tail C ⟨hk, hw⟩
  refine Sp0.of (by decide) (Nat.le_of_ble_eq_true rfl) ?_
  show E mX4_finishIfNothingFollows none _ 0 [some (.ref 42), none] [] SH h 0 0
  refine E_aload_n dX4_finishIfNothingFollows_0 rfl ?_
  refine E_getR dX4_finishIfNothingFollows_1 fl_X4_12 rfl r425 rfl ?_
  refine E_getI dX4_finishIfNothingFollows_4 fl_X4_150 rfl rfl ?_
  refine E_ic 1 dX4_finishIfNothingFollows_7 (by decide) ?_
  rw [e9]
  refine E_icmp_eq 34 dX4_finishIfNothingFollows_8 (by decide) (fun c_8 => ?_) (fun c_8 => ?_)
  · exact go (Or.inl c_8)
  · refine E_aload_n dX4_finishIfNothingFollows_11 rfl ?_
    refine E_getR dX4_finishIfNothingFollows_12 fl_X4_12 rfl r425 rfl ?_
    refine E_getI dX4_finishIfNothingFollows_15 fl_X4_150 rfl rfl ?_
    refine E_ic 3 dX4_finishIfNothingFollows_18 (by decide) ?_
    rw [e9]
    refine E_icmp_eq 34 dX4_finishIfNothingFollows_19 (by decide) (fun c_19 => ?_) (fun c_19 => ?_)
    · exact go (Or.inr (Or.inl c_19))
    · refine E_aload_n dX4_finishIfNothingFollows_22 rfl ?_
      refine E_getR dX4_finishIfNothingFollows_23 fl_X4_12 rfl r425 rfl ?_
      refine E_getI dX4_finishIfNothingFollows_26 fl_X4_150 rfl rfl ?_
      refine E_bi 7 dX4_finishIfNothingFollows_29 (by decide) ?_
      rw [e9]
      refine E_icmp_ne 38 dX4_finishIfNothingFollows_31 (by decide) (fun c_31 => ?_) (fun c_31 => ?_)
      · refine E_ic 0 dX4_finishIfNothingFollows_38 (by decide) ?_
        refine E_istore_n dX4_finishIfNothingFollows_39 (by decide) ?_
        refine E_iload_n dX4_finishIfNothingFollows_40 rfl ?_
        refine E_if_eq 73 dX4_finishIfNothingFollows_41 (by decide) (fun c_41 => ?_) (fun c_41 => absurd rfl c_41)
        exact E_retv dX4_finishIfNothingFollows_73 rfl (Nat.le_of_ble_eq_true rfl) (Nat.le_of_ble_eq_true rfl) ⟨rfl, rfl, Or.inr ⟨fun q => by rcases q.1 with z | z | z; exact c_8 z; exact c_19 z; exact c_31 z, C⟩, CF.rf⟩
      · exact go (Or.inr (Or.inr c_31))
end
