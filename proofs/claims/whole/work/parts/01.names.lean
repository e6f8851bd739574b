-- ===== PART A: goes FIRST, ahead of the names: the tables' words, and 'selects' of the private methods out of them =====
/-- a private method of a class that the tables say can be made, by its rows of tables_1 -/
def lw_okq (q : MethodName × Nat) : Prop := (q.1.cls ≠ "java/lang/invoke/MethodHandle" ∧ q.1.cls ≠ "java/lang/invoke/VarHandle") ∧ Cond.instantiable q.1.cls q.2 ∈ tables_1 ∧ Cond.privateMethod q.1 ∈ tables_1 ∧ Cond.instanceMethod q.1 ∈ tables_1
theorem lw_p0 : lw_okq (⟨"RollingSync", "side", "(I)LRollingSync$Side;"⟩, 4) := ⟨⟨by decide +kernel, by decide +kernel⟩, List.mem_of_getElem? (i := 15) (by decide +kernel), List.mem_of_getElem? (i := 323) (by decide +kernel), List.mem_of_getElem? (i := 324) (by decide +kernel)⟩
theorem lw_p1 : lw_okq (⟨"RollingSync", "existing", "(II)LRollingSync$Row;"⟩, 4) := ⟨⟨by decide +kernel, by decide +kernel⟩, List.mem_of_getElem? (i := 15) (by decide +kernel), List.mem_of_getElem? (i := 351) (by decide +kernel), List.mem_of_getElem? (i := 352) (by decide +kernel)⟩
theorem lw_p2 : lw_okq (⟨"RollingSync$Receiver", "putToWait", "(I)V"⟩, 17) := ⟨⟨by decide +kernel, by decide +kernel⟩, List.mem_of_getElem? (i := 189) (by decide +kernel), List.mem_of_getElem? (i := 436) (by decide +kernel), List.mem_of_getElem? (i := 437) (by decide +kernel)⟩
theorem lw_p3 : lw_okq (⟨"RollingSync$Run", "makeMessage", "()V"⟩, 15) := ⟨⟨by decide +kernel, by decide +kernel⟩, List.mem_of_getElem? (i := 94) (by decide +kernel), List.mem_of_getElem? (i := 457) (by decide +kernel), List.mem_of_getElem? (i := 458) (by decide +kernel)⟩
theorem lw_p4 : lw_okq (⟨"RollingSync$Sender", "makePart", "(LRollingSync$Message;LRollingSync$Row;)V"⟩, 6) := ⟨⟨by decide +kernel, by decide +kernel⟩, List.mem_of_getElem? (i := 159) (by decide +kernel), List.mem_of_getElem? (i := 475) (by decide +kernel), List.mem_of_getElem? (i := 476) (by decide +kernel)⟩
theorem lw_p5 : lw_okq (⟨"RollingSync$Sender", "look", "(LRollingSync$Row;)I"⟩, 6) := ⟨⟨by decide +kernel, by decide +kernel⟩, List.mem_of_getElem? (i := 159) (by decide +kernel), List.mem_of_getElem? (i := 479) (by decide +kernel), List.mem_of_getElem? (i := 480) (by decide +kernel)⟩
theorem lw_p6 : lw_okq (⟨"RollingSync$Receiver", "leastToDo", "()I"⟩, 17) := ⟨⟨by decide +kernel, by decide +kernel⟩, List.mem_of_getElem? (i := 189) (by decide +kernel), List.mem_of_getElem? (i := 516) (by decide +kernel), List.mem_of_getElem? (i := 517) (by decide +kernel)⟩
theorem lw_p7 : lw_okq (⟨"RollingSync$Run", "emit", "()V"⟩, 15) := ⟨⟨by decide +kernel, by decide +kernel⟩, List.mem_of_getElem? (i := 94) (by decide +kernel), List.mem_of_getElem? (i := 533) (by decide +kernel), List.mem_of_getElem? (i := 534) (by decide +kernel)⟩
theorem lw_p8 : lw_okq (⟨"RollingSync$Run", "takeMessage", "()V"⟩, 15) := ⟨⟨by decide +kernel, by decide +kernel⟩, List.mem_of_getElem? (i := 94) (by decide +kernel), List.mem_of_getElem? (i := 546) (by decide +kernel), List.mem_of_getElem? (i := 547) (by decide +kernel)⟩
theorem lw_p9 : lw_okq (⟨"RollingSync$Receiver", "settle", "()V"⟩, 17) := ⟨⟨by decide +kernel, by decide +kernel⟩, List.mem_of_getElem? (i := 189) (by decide +kernel), List.mem_of_getElem? (i := 570) (by decide +kernel), List.mem_of_getElem? (i := 571) (by decide +kernel)⟩
theorem lw_p10 : lw_okq (⟨"RollingSync$Run", "finishIfNothingFollows", "()V"⟩, 15) := ⟨⟨by decide +kernel, by decide +kernel⟩, List.mem_of_getElem? (i := 94) (by decide +kernel), List.mem_of_getElem? (i := 597) (by decide +kernel), List.mem_of_getElem? (i := 598) (by decide +kernel)⟩
theorem lw_p11 : lw_okq (⟨"RollingSyncModel", "sizeOf", "(I)I"⟩, 42) := ⟨⟨by decide +kernel, by decide +kernel⟩, List.mem_of_getElem? (i := 681) (by decide +kernel), List.mem_of_getElem? (i := 822) (by decide +kernel), List.mem_of_getElem? (i := 823) (by decide +kernel)⟩
theorem lw_p12 : lw_okq (⟨"RollingSyncModel", "steps", "()V"⟩, 42) := ⟨⟨by decide +kernel, by decide +kernel⟩, List.mem_of_getElem? (i := 681) (by decide +kernel), List.mem_of_getElem? (i := 880) (by decide +kernel), List.mem_of_getElem? (i := 881) (by decide +kernel)⟩
theorem lw_p13 : lw_okq (⟨"RollingSyncModel", "makes", "()V"⟩, 42) := ⟨⟨by decide +kernel, by decide +kernel⟩, List.mem_of_getElem? (i := 681) (by decide +kernel), List.mem_of_getElem? (i := 884) (by decide +kernel), List.mem_of_getElem? (i := 885) (by decide +kernel)⟩
theorem lw_p14 : lw_okq (⟨"RollingSyncModel", "message", "(III)V"⟩, 42) := ⟨⟨by decide +kernel, by decide +kernel⟩, List.mem_of_getElem? (i := 681) (by decide +kernel), List.mem_of_getElem? (i := 888) (by decide +kernel), List.mem_of_getElem? (i := 889) (by decide +kernel)⟩
theorem lw_p15 : lw_okq (⟨"RollingSyncModel", "makesOfFile", "()V"⟩, 42) := ⟨⟨by decide +kernel, by decide +kernel⟩, List.mem_of_getElem? (i := 681) (by decide +kernel), List.mem_of_getElem? (i := 893) (by decide +kernel), List.mem_of_getElem? (i := 894) (by decide +kernel)⟩
def lw_privs_1 : List (MethodName × Nat) := [(⟨"RollingSync", "side", "(I)LRollingSync$Side;"⟩, 4), (⟨"RollingSync", "existing", "(II)LRollingSync$Row;"⟩, 4), (⟨"RollingSync$Receiver", "putToWait", "(I)V"⟩, 17), (⟨"RollingSync$Run", "makeMessage", "()V"⟩, 15), (⟨"RollingSync$Sender", "makePart", "(LRollingSync$Message;LRollingSync$Row;)V"⟩, 6), (⟨"RollingSync$Sender", "look", "(LRollingSync$Row;)I"⟩, 6), (⟨"RollingSync$Receiver", "leastToDo", "()I"⟩, 17), (⟨"RollingSync$Run", "emit", "()V"⟩, 15), (⟨"RollingSync$Run", "takeMessage", "()V"⟩, 15), (⟨"RollingSync$Receiver", "settle", "()V"⟩, 17), (⟨"RollingSync$Run", "finishIfNothingFollows", "()V"⟩, 15), (⟨"RollingSyncModel", "sizeOf", "(I)I"⟩, 42), (⟨"RollingSyncModel", "steps", "()V"⟩, 42), (⟨"RollingSyncModel", "makes", "()V"⟩, 42), (⟨"RollingSyncModel", "message", "(III)V"⟩, 42), (⟨"RollingSyncModel", "makesOfFile", "()V"⟩, 42)]
theorem lw_r1 : ∀ q ∈ lw_privs_1, lw_okq q := List.forall_mem_cons.mpr ⟨lw_p0, List.forall_mem_cons.mpr ⟨lw_p1, List.forall_mem_cons.mpr ⟨lw_p2, List.forall_mem_cons.mpr ⟨lw_p3, List.forall_mem_cons.mpr ⟨lw_p4, List.forall_mem_cons.mpr ⟨lw_p5, List.forall_mem_cons.mpr ⟨lw_p6, List.forall_mem_cons.mpr ⟨lw_p7, List.forall_mem_cons.mpr ⟨lw_p8, List.forall_mem_cons.mpr ⟨lw_p9, List.forall_mem_cons.mpr ⟨lw_p10, List.forall_mem_cons.mpr ⟨lw_p11, List.forall_mem_cons.mpr ⟨lw_p12, List.forall_mem_cons.mpr ⟨lw_p13, List.forall_mem_cons.mpr ⟨lw_p14, List.forall_mem_cons.mpr ⟨lw_p15, fun _ h => absurd h List.not_mem_nil⟩⟩⟩⟩⟩⟩⟩⟩⟩⟩⟩⟩⟩⟩⟩⟩
theorem lw_p16 : lw_okq (⟨"RollingSyncModel", "look", "(I)I"⟩, 42) := ⟨⟨by decide +kernel, by decide +kernel⟩, List.mem_of_getElem? (i := 681) (by decide +kernel), List.mem_of_getElem? (i := 897) (by decide +kernel), List.mem_of_getElem? (i := 898) (by decide +kernel)⟩
theorem lw_p17 : lw_okq (⟨"RollingSyncModel", "target", "()I"⟩, 42) := ⟨⟨by decide +kernel, by decide +kernel⟩, List.mem_of_getElem? (i := 681) (by decide +kernel), List.mem_of_getElem? (i := 904) (by decide +kernel), List.mem_of_getElem? (i := 905) (by decide +kernel)⟩
theorem lw_p18 : lw_okq (⟨"RollingSyncModel", "makesSums", "()V"⟩, 42) := ⟨⟨by decide +kernel, by decide +kernel⟩, List.mem_of_getElem? (i := 681) (by decide +kernel), List.mem_of_getElem? (i := 908) (by decide +kernel), List.mem_of_getElem? (i := 909) (by decide +kernel)⟩
theorem lw_p19 : lw_okq (⟨"RollingSyncModel", "leastToDo", "()I"⟩, 42) := ⟨⟨by decide +kernel, by decide +kernel⟩, List.mem_of_getElem? (i := 681) (by decide +kernel), List.mem_of_getElem? (i := 912) (by decide +kernel), List.mem_of_getElem? (i := 913) (by decide +kernel)⟩
theorem lw_p20 : lw_okq (⟨"RollingSyncModel", "isToLose", "()Z"⟩, 42) := ⟨⟨by decide +kernel, by decide +kernel⟩, List.mem_of_getElem? (i := 681) (by decide +kernel), List.mem_of_getElem? (i := 916) (by decide +kernel), List.mem_of_getElem? (i := 917) (by decide +kernel)⟩
theorem lw_p21 : lw_okq (⟨"RollingSyncModel", "comes", "()V"⟩, 42) := ⟨⟨by decide +kernel, by decide +kernel⟩, List.mem_of_getElem? (i := 681) (by decide +kernel), List.mem_of_getElem? (i := 920) (by decide +kernel), List.mem_of_getElem? (i := 921) (by decide +kernel)⟩
theorem lw_p22 : lw_okq (⟨"RollingSyncModel", "nodeComes", "()V"⟩, 42) := ⟨⟨by decide +kernel, by decide +kernel⟩, List.mem_of_getElem? (i := 681) (by decide +kernel), List.mem_of_getElem? (i := 924) (by decide +kernel), List.mem_of_getElem? (i := 925) (by decide +kernel)⟩
theorem lw_p23 : lw_okq (⟨"RollingSyncModel", "sumsCome", "()V"⟩, 42) := ⟨⟨by decide +kernel, by decide +kernel⟩, List.mem_of_getElem? (i := 681) (by decide +kernel), List.mem_of_getElem? (i := 928) (by decide +kernel), List.mem_of_getElem? (i := 929) (by decide +kernel)⟩
theorem lw_p24 : lw_okq (⟨"RollingSyncModel", "builds", "(B)V"⟩, 42) := ⟨⟨by decide +kernel, by decide +kernel⟩, List.mem_of_getElem? (i := 681) (by decide +kernel), List.mem_of_getElem? (i := 932) (by decide +kernel), List.mem_of_getElem? (i := 933) (by decide +kernel)⟩
theorem lw_p25 : lw_okq (⟨"RollingSyncModel", "endComes", "()V"⟩, 42) := ⟨⟨by decide +kernel, by decide +kernel⟩, List.mem_of_getElem? (i := 681) (by decide +kernel), List.mem_of_getElem? (i := 936) (by decide +kernel), List.mem_of_getElem? (i := 937) (by decide +kernel)⟩
theorem lw_p26 : lw_okq (⟨"RollingSyncModel", "ends", "()V"⟩, 42) := ⟨⟨by decide +kernel, by decide +kernel⟩, List.mem_of_getElem? (i := 681) (by decide +kernel), List.mem_of_getElem? (i := 943) (by decide +kernel), List.mem_of_getElem? (i := 944) (by decide +kernel)⟩
def lw_privs_2 : List (MethodName × Nat) := [(⟨"RollingSyncModel", "look", "(I)I"⟩, 42), (⟨"RollingSyncModel", "target", "()I"⟩, 42), (⟨"RollingSyncModel", "makesSums", "()V"⟩, 42), (⟨"RollingSyncModel", "leastToDo", "()I"⟩, 42), (⟨"RollingSyncModel", "isToLose", "()Z"⟩, 42), (⟨"RollingSyncModel", "comes", "()V"⟩, 42), (⟨"RollingSyncModel", "nodeComes", "()V"⟩, 42), (⟨"RollingSyncModel", "sumsCome", "()V"⟩, 42), (⟨"RollingSyncModel", "builds", "(B)V"⟩, 42), (⟨"RollingSyncModel", "endComes", "()V"⟩, 42), (⟨"RollingSyncModel", "ends", "()V"⟩, 42)]
theorem lw_r2 : ∀ q ∈ lw_privs_2, lw_okq q := List.forall_mem_cons.mpr ⟨lw_p16, List.forall_mem_cons.mpr ⟨lw_p17, List.forall_mem_cons.mpr ⟨lw_p18, List.forall_mem_cons.mpr ⟨lw_p19, List.forall_mem_cons.mpr ⟨lw_p20, List.forall_mem_cons.mpr ⟨lw_p21, List.forall_mem_cons.mpr ⟨lw_p22, List.forall_mem_cons.mpr ⟨lw_p23, List.forall_mem_cons.mpr ⟨lw_p24, List.forall_mem_cons.mpr ⟨lw_p25, List.forall_mem_cons.mpr ⟨lw_p26, fun _ h => absurd h List.not_mem_nil⟩⟩⟩⟩⟩⟩⟩⟩⟩⟩⟩
def lw_privs : List (MethodName × Nat) := lw_privs_1 ++ (lw_privs_2)
def lw_tbl : List Cond := k2_sels lw_privs ++ tables_1
theorem lw_privs_ok : ∀ q ∈ lw_privs, lw_okq q := by
  show ∀ q ∈ lw_privs_1 ++ (lw_privs_2), lw_okq q
  exact List.forall_mem_append.mpr ⟨lw_r1, lw_r2⟩
def RX0 : String := "RollingSync$Line"
def TX0 : u_T := fun k => match k with
  | 0 => ("RollingSync$Line", "told", "J", false)
  | 1 => ("RollingSync$Line", "byZero", "J", false)
  | _ => ("RollingSync$Line", "byOne", "J", false)
def tyX0 : Nat → FieldType := fun k => match k with
  | 0 => .long
  | 1 => .long
  | _ => .long
theorem nmX0 : ∀ a, a < 3 → ∀ b, b < 3 → a ≠ b → (TX0 a).2.1 ≠ (TX0 b).2.1 := by decide +kernel
theorem tyX0_ok : ∀ k, k < 3 → parseFieldDescriptor (TX0 k).2.2.1 = some (tyX0 k) := by decide +kernel
abbrev cX0_init : ByteArray := prog_2_method_1_code
def yX0_init : MethodName := ⟨RX0, "<init>", "()V"⟩
abbrev cX0_tellLoss : ByteArray := prog_2_method_2_code
def yX0_tellLoss : MethodName := ⟨RX0, "tellLoss", "(I)I"⟩
abbrev cX0_bytesBy : ByteArray := prog_2_method_3_code
def yX0_bytesBy : MethodName := ⟨RX0, "bytesBy", "(I)J"⟩
abbrev cX0_carry : ByteArray := prog_2_method_4_code
def yX0_carry : MethodName := ⟨RX0, "carry", "(II)Z"⟩
def RX1 : String := "RollingSync$Message"
def TX1 : u_T := fun k => match k with
  | 0 => ("RollingSync$Message", "bytes", "LRollingSync$Row;", true)
  | 1 => ("RollingSync$Message", "sums", "LRollingSync$Sums;", true)
  | 2 => ("RollingSync$Message", "kind", "I", false)
  | 3 => ("RollingSync$Message", "length", "I", false)
  | 4 => ("RollingSync$Message", "subject", "I", false)
  | _ => ("RollingSync$Message", "digest", "J", false)
def tyX1 : Nat → FieldType := fun k => match k with
  | 0 => .object "RollingSync$Row"
  | 1 => .object "RollingSync$Sums"
  | 2 => .int
  | 3 => .int
  | 4 => .int
  | _ => .long
theorem nmX1 : ∀ a, a < 6 → ∀ b, b < 6 → a ≠ b → (TX1 a).2.1 ≠ (TX1 b).2.1 := by decide +kernel
theorem tyX1_ok : ∀ k, k < 6 → parseFieldDescriptor (TX1 k).2.2.1 = some (tyX1 k) := by decide +kernel
abbrev cX1_init : ByteArray := prog_3_method_1_code
def yX1_init : MethodName := ⟨RX1, "<init>", "()V"⟩
abbrev cX1_become : ByteArray := prog_3_method_2_code
def yX1_become : MethodName := ⟨RX1, "become", "(II)V"⟩
abbrev cX1_isByTarget : ByteArray := prog_3_method_3_code
def yX1_isByTarget : MethodName := ⟨RX1, "isByTarget", "()Z"⟩
def RX2 : String := "RollingSync$Receiver"
def TX2 : u_T := fun k => match k with
  | 0 => ("RollingSync$Receiver", "waiting", "[I", true)
  | 1 => ("RollingSync$Receiver", "toDo", "[Z", true)
  | 2 => ("RollingSync$Receiver", "dropLater", "[Z", true)
  | 3 => ("RollingSync$Receiver", "built", "LRollingSync$Row;", true)
  | 4 => ("RollingSync$Receiver", "side", "LRollingSync$Side;", false)
  | 5 => ("RollingSync$Receiver", "waitingCount", "I", false)
  | 6 => ("RollingSync$Receiver", "block", "I", false)
  | 7 => ("RollingSync$Receiver", "firstK", "I", false)
  | 8 => ("RollingSync$Receiver", "rule", "I", false)
  | 9 => ("RollingSync$Receiver", "file", "I", false)
  | 10 => ("RollingSync$Receiver", "k", "I", false)
  | 11 => ("RollingSync$Receiver", "tries", "I", false)
  | 12 => ("RollingSync$Receiver", "done", "I", false)
  | 13 => ("RollingSync$Receiver", "left", "I", false)
  | 14 => ("RollingSync$Receiver", "triesOver", "I", false)
  | 15 => ("RollingSync$Receiver", "blocksCame", "I", false)
  | _ => ("RollingSync$Receiver", "bytesCame", "I", false)
def tyX2 : Nat → FieldType := fun k => match k with
  | 0 => .array .int
  | 1 => .array .boolean
  | 2 => .array .boolean
  | 3 => .object "RollingSync$Row"
  | 4 => .object "RollingSync$Side"
  | 5 => .int
  | 6 => .int
  | 7 => .int
  | 8 => .int
  | 9 => .int
  | 10 => .int
  | 11 => .int
  | 12 => .int
  | 13 => .int
  | 14 => .int
  | 15 => .int
  | _ => .int
theorem nmX2 : ∀ a, a < 17 → ∀ b, b < 17 → a ≠ b → (TX2 a).2.1 ≠ (TX2 b).2.1 := by decide +kernel
theorem tyX2_ok : ∀ k, k < 17 → parseFieldDescriptor (TX2 k).2.2.1 = some (tyX2 k) := by decide +kernel
abbrev cX2_init : ByteArray := prog_4_method_1_code
def yX2_init : MethodName := ⟨RX2, "<init>", "(LRollingSync$Side;)V"⟩
abbrev cX2_start : ByteArray := prog_4_method_2_code
def yX2_start : MethodName := ⟨RX2, "start", "(LRollingSync$Side;III)V"⟩
abbrev cX2_wantsMore : ByteArray := prog_4_method_3_code
def yX2_wantsMore : MethodName := ⟨RX2, "wantsMore", "()Z"⟩
abbrev cX2_toDoCount : ByteArray := prog_4_method_4_code
def yX2_toDoCount : MethodName := ⟨RX2, "toDoCount", "()I"⟩
abbrev cX2_makeNext : ByteArray := prog_4_method_5_code
def yX2_makeNext : MethodName := ⟨RX2, "makeNext", "(LRollingSync$Message;)V"⟩
abbrev cX2_takeNode : ByteArray := prog_4_method_6_code
def yX2_takeNode : MethodName := ⟨RX2, "takeNode", "(IJ)V"⟩
abbrev cX2_takeGone : ByteArray := prog_4_method_7_code
def yX2_takeGone : MethodName := ⟨RX2, "takeGone", "()V"⟩
abbrev cX2_takeBytes : ByteArray := prog_4_method_8_code
def yX2_takeBytes : MethodName := ⟨RX2, "takeBytes", "(LRollingSync$Row;)V"⟩
abbrev cX2_takeBlock : ByteArray := prog_4_method_9_code
def yX2_takeBlock : MethodName := ⟨RX2, "takeBlock", "(I)V"⟩
abbrev cX2_takeEnd : ByteArray := prog_4_method_10_code
def yX2_takeEnd : MethodName := ⟨RX2, "takeEnd", "(J)V"⟩
abbrev cX2_dropTold : ByteArray := prog_4_method_11_code
def yX2_dropTold : MethodName := ⟨RX2, "dropTold", "()V"⟩
abbrev cX2_forgetBuilt : ByteArray := prog_4_method_12_code
def yX2_forgetBuilt : MethodName := ⟨RX2, "forgetBuilt", "()V"⟩
abbrev cX2_settle : ByteArray := prog_4_method_13_code
def yX2_settle : MethodName := ⟨RX2, "settle", "()V"⟩
abbrev cX2_putToWait : ByteArray := prog_4_method_14_code
def yX2_putToWait : MethodName := ⟨RX2, "putToWait", "(I)V"⟩
abbrev cX2_leastToDo : ByteArray := prog_4_method_15_code
def yX2_leastToDo : MethodName := ⟨RX2, "leastToDo", "()I"⟩
def RX3 : String := "RollingSync$Row"
def TX3 : u_T := fun k => match k with
  | 0 => ("RollingSync$Row", "cells", "[I", true)
  | _ => ("RollingSync$Row", "count", "I", false)
def tyX3 : Nat → FieldType := fun k => match k with
  | 0 => .array .int
  | _ => .int
theorem nmX3 : ∀ a, a < 2 → ∀ b, b < 2 → a ≠ b → (TX3 a).2.1 ≠ (TX3 b).2.1 := by decide +kernel
theorem tyX3_ok : ∀ k, k < 2 → parseFieldDescriptor (TX3 k).2.2.1 = some (tyX3 k) := by decide +kernel
abbrev cX3_init : ByteArray := prog_5_method_1_code
def yX3_init : MethodName := ⟨RX3, "<init>", "(I)V"⟩
abbrev cX3_count : ByteArray := prog_5_method_2_code
def yX3_count : MethodName := ⟨RX3, "count", "()I"⟩
abbrev cX3_holds : ByteArray := prog_5_method_3_code
def yX3_holds : MethodName := ⟨RX3, "holds", "(II)Z"⟩
abbrev cX3_get : ByteArray := prog_5_method_4_code
def yX3_get : MethodName := ⟨RX3, "get", "(I)I"⟩
abbrev cX3_set : ByteArray := prog_5_method_5_code
def yX3_set : MethodName := ⟨RX3, "set", "(II)V"⟩
abbrev cX3_add : ByteArray := prog_5_method_6_code
def yX3_add : MethodName := ⟨RX3, "add", "(I)V"⟩
abbrev cX3_addAll : ByteArray := prog_5_method_7_code
def yX3_addAll : MethodName := ⟨RX3, "addAll", "(LRollingSync$Row;)V"⟩
abbrev cX3_keep : ByteArray := prog_5_method_8_code
def yX3_keep : MethodName := ⟨RX3, "keep", "(I)V"⟩
abbrev cX3_digestOf : ByteArray := prog_5_method_9_code
def yX3_digestOf : MethodName := ⟨RX3, "digestOf", "(II)J"⟩
abbrev cX3_weakOf : ByteArray := prog_5_method_10_code
def yX3_weakOf : MethodName := ⟨RX3, "weakOf", "(II)J"⟩
def RX4 : String := "RollingSync$Run"
def TX4 : u_T := fun k => match k with
  | 0 => ("RollingSync$Run", "zero", "LRollingSync$Side;", true)
  | 1 => ("RollingSync$Run", "one", "LRollingSync$Side;", true)
  | 2 => ("RollingSync$Run", "line", "LRollingSync$Line;", true)
  | 3 => ("RollingSync$Run", "sender", "LRollingSync$Sender;", true)
  | 4 => ("RollingSync$Run", "receiver", "LRollingSync$Receiver;", true)
  | 5 => ("RollingSync$Run", "message", "LRollingSync$Message;", true)
  | 6 => ("RollingSync$Run", "phase", "I", false)
  | 7 => ("RollingSync$Run", "source", "I", false)
  | 8 => ("RollingSync$Run", "lost", "Z", false)
  | 9 => ("RollingSync$Run", "silentSteps", "I", false)
  | 10 => ("RollingSync$Run", "steps", "I", false)
  | 11 => ("RollingSync$Run", "messages", "I", false)
  | 12 => ("RollingSync$Run", "lostMessages", "I", false)
  | 13 => ("RollingSync$Run", "latestK", "I", false)
  | _ => ("RollingSync$Run", "latestKind", "I", false)
def tyX4 : Nat → FieldType := fun k => match k with
  | 0 => .object "RollingSync$Side"
  | 1 => .object "RollingSync$Side"
  | 2 => .object "RollingSync$Line"
  | 3 => .object "RollingSync$Sender"
  | 4 => .object "RollingSync$Receiver"
  | 5 => .object "RollingSync$Message"
  | 6 => .int
  | 7 => .int
  | 8 => .boolean
  | 9 => .int
  | 10 => .int
  | 11 => .int
  | 12 => .int
  | 13 => .int
  | _ => .int
theorem nmX4 : ∀ a, a < 15 → ∀ b, b < 15 → a ≠ b → (TX4 a).2.1 ≠ (TX4 b).2.1 := by decide +kernel
theorem tyX4_ok : ∀ k, k < 15 → parseFieldDescriptor (TX4 k).2.2.1 = some (tyX4 k) := by decide +kernel
abbrev cX4_init : ByteArray := prog_6_method_1_code
def yX4_init : MethodName := ⟨RX4, "<init>", "(LRollingSync$Side;LRollingSync$Side;LRollingSync$Line;)V"⟩
abbrev cX4_goes : ByteArray := prog_6_method_2_code
def yX4_goes : MethodName := ⟨RX4, "goes", "()Z"⟩
abbrev cX4_start : ByteArray := prog_6_method_3_code
def yX4_start : MethodName := ⟨RX4, "start", "(IIII)V"⟩
abbrev cX4_stop : ByteArray := prog_6_method_4_code
def yX4_stop : MethodName := ⟨RX4, "stop", "()I"⟩
abbrev cX4_oneStep : ByteArray := prog_6_method_5_code
def yX4_oneStep : MethodName := ⟨RX4, "oneStep", "()V"⟩
abbrev cX4_tell : ByteArray := prog_6_method_6_code
def yX4_tell : MethodName := ⟨RX4, "tell", "(I)I"⟩
abbrev cX4_builtByte : ByteArray := prog_6_method_7_code
def yX4_builtByte : MethodName := ⟨RX4, "builtByte", "(I)I"⟩
abbrev cX4_sumOf : ByteArray := prog_6_method_8_code
def yX4_sumOf : MethodName := ⟨RX4, "sumOf", "(II)J"⟩
abbrev cX4_makeMessage : ByteArray := prog_6_method_9_code
def yX4_makeMessage : MethodName := ⟨RX4, "makeMessage", "()V"⟩
abbrev cX4_emit : ByteArray := prog_6_method_10_code
def yX4_emit : MethodName := ⟨RX4, "emit", "()V"⟩
abbrev cX4_takeMessage : ByteArray := prog_6_method_11_code
def yX4_takeMessage : MethodName := ⟨RX4, "takeMessage", "()V"⟩
abbrev cX4_finishIfNothingFollows : ByteArray := prog_6_method_12_code
def yX4_finishIfNothingFollows : MethodName := ⟨RX4, "finishIfNothingFollows", "()V"⟩
def RX5 : String := "RollingSync$Sender"
def TX5 : u_T := fun k => match k with
  | 0 => ("RollingSync$Sender", "sums", "LRollingSync$Sums;", true)
  | 1 => ("RollingSync$Sender", "side", "LRollingSync$Side;", false)
  | 2 => ("RollingSync$Sender", "file", "I", false)
  | 3 => ("RollingSync$Sender", "place", "I", false)
  | 4 => ("RollingSync$Sender", "meets", "I", false)
  | _ => ("RollingSync$Sender", "falseMeets", "I", false)
def tyX5 : Nat → FieldType := fun k => match k with
  | 0 => .object "RollingSync$Sums"
  | 1 => .object "RollingSync$Side"
  | 2 => .int
  | 3 => .int
  | 4 => .int
  | _ => .int
theorem nmX5 : ∀ a, a < 6 → ∀ b, b < 6 → a ≠ b → (TX5 a).2.1 ≠ (TX5 b).2.1 := by decide +kernel
theorem tyX5_ok : ∀ k, k < 6 → parseFieldDescriptor (TX5 k).2.2.1 = some (tyX5 k) := by decide +kernel
abbrev cX5_init : ByteArray := prog_7_method_1_code
def yX5_init : MethodName := ⟨RX5, "<init>", "(LRollingSync$Side;)V"⟩
abbrev cX5_start : ByteArray := prog_7_method_2_code
def yX5_start : MethodName := ⟨RX5, "start", "(LRollingSync$Side;)V"⟩
abbrev cX5_takeSums : ByteArray := prog_7_method_3_code
def yX5_takeSums : MethodName := ⟨RX5, "takeSums", "(ILRollingSync$Sums;)V"⟩
abbrev cX5_makeNode : ByteArray := prog_7_method_4_code
def yX5_makeNode : MethodName := ⟨RX5, "makeNode", "(LRollingSync$Message;)V"⟩
abbrev cX5_makeNext : ByteArray := prog_7_method_5_code
def yX5_makeNext : MethodName := ⟨RX5, "makeNext", "(LRollingSync$Message;)V"⟩
abbrev cX5_makePart : ByteArray := prog_7_method_6_code
def yX5_makePart : MethodName := ⟨RX5, "makePart", "(LRollingSync$Message;LRollingSync$Row;)V"⟩
abbrev cX5_look : ByteArray := prog_7_method_7_code
def yX5_look : MethodName := ⟨RX5, "look", "(LRollingSync$Row;)I"⟩
def RX6 : String := "RollingSync$Side"
def TX6 : u_T := fun k => match k with
  | 0 => ("RollingSync$Side", "rows", "[LRollingSync$Row;", true)
  | 1 => ("RollingSync$Side", "present", "[Z", true)
  | _ => ("RollingSync$Side", "nodes", "[J", true)
def tyX6 : Nat → FieldType := fun k => match k with
  | 0 => .array (.object "RollingSync$Row")
  | 1 => .array .boolean
  | _ => .array .long
theorem nmX6 : ∀ a, a < 3 → ∀ b, b < 3 → a ≠ b → (TX6 a).2.1 ≠ (TX6 b).2.1 := by decide +kernel
theorem tyX6_ok : ∀ k, k < 3 → parseFieldDescriptor (TX6 k).2.2.1 = some (tyX6 k) := by decide +kernel
abbrev cX6_init : ByteArray := prog_8_method_1_code
def yX6_init : MethodName := ⟨RX6, "<init>", "()V"⟩
abbrev cX6_existing : ByteArray := prog_8_method_2_code
def yX6_existing : MethodName := ⟨RX6, "existing", "(I)LRollingSync$Row;"⟩
abbrev cX6_countOf : ByteArray := prog_8_method_3_code
def yX6_countOf : MethodName := ⟨RX6, "countOf", "(I)I"⟩
abbrev cX6_digestAt : ByteArray := prog_8_method_4_code
def yX6_digestAt : MethodName := ⟨RX6, "digestAt", "(I)J"⟩
abbrev cX6_put : ByteArray := prog_8_method_5_code
def yX6_put : MethodName := ⟨RX6, "put", "(IIJI)V"⟩
abbrev cX6_replace : ByteArray := prog_8_method_6_code
def yX6_replace : MethodName := ⟨RX6, "replace", "(ILRollingSync$Row;)V"⟩
abbrev cX6_remove : ByteArray := prog_8_method_7_code
def yX6_remove : MethodName := ⟨RX6, "remove", "(I)V"⟩
abbrev cX6_refresh : ByteArray := prog_8_method_8_code
def yX6_refresh : MethodName := ⟨RX6, "refresh", "(I)V"⟩
abbrev cX6_mixed : ByteArray := prog_8_method_9_code
def yX6_mixed : MethodName := ⟨RX6, "mixed", "(JJ)J"⟩
def RX7 : String := "RollingSync$Sums"
def TX7 : u_T := fun k => match k with
  | 0 => ("RollingSync$Sums", "weaks", "[J", true)
  | 1 => ("RollingSync$Sums", "strongs", "[J", true)
  | 2 => ("RollingSync$Sums", "count", "I", false)
  | 3 => ("RollingSync$Sums", "block", "I", false)
  | _ => ("RollingSync$Sums", "k", "I", false)
def tyX7 : Nat → FieldType := fun k => match k with
  | 0 => .array .long
  | 1 => .array .long
  | 2 => .int
  | 3 => .int
  | _ => .int
theorem nmX7 : ∀ a, a < 5 → ∀ b, b < 5 → a ≠ b → (TX7 a).2.1 ≠ (TX7 b).2.1 := by decide +kernel
theorem tyX7_ok : ∀ k, k < 5 → parseFieldDescriptor (TX7 k).2.2.1 = some (tyX7 k) := by decide +kernel
abbrev cX7_init : ByteArray := prog_9_method_1_code
def yX7_init : MethodName := ⟨RX7, "<init>", "()V"⟩
abbrev cX7_count : ByteArray := prog_9_method_2_code
def yX7_count : MethodName := ⟨RX7, "count", "()I"⟩
abbrev cX7_block : ByteArray := prog_9_method_3_code
def yX7_block : MethodName := ⟨RX7, "block", "()I"⟩
abbrev cX7_k : ByteArray := prog_9_method_4_code
def yX7_k : MethodName := ⟨RX7, "k", "()I"⟩
abbrev cX7_fill : ByteArray := prog_9_method_5_code
def yX7_fill : MethodName := ⟨RX7, "fill", "(LRollingSync$Row;II)V"⟩
abbrev cX7_copyFrom : ByteArray := prog_9_method_6_code
def yX7_copyFrom : MethodName := ⟨RX7, "copyFrom", "(LRollingSync$Sums;)V"⟩
abbrev cX7_sumOf : ByteArray := prog_9_method_7_code
def yX7_sumOf : MethodName := ⟨RX7, "sumOf", "(II)J"⟩
abbrev cX7_hasWeak : ByteArray := prog_9_method_8_code
def yX7_hasWeak : MethodName := ⟨RX7, "hasWeak", "(J)Z"⟩
abbrev cX7_find : ByteArray := prog_9_method_9_code
def yX7_find : MethodName := ⟨RX7, "find", "(JJ)I"⟩
def RX8 : String := "RollingSync"
def TX8 : u_T := fun k => match k with
  | 0 => ("RollingSync", "zero", "LRollingSync$Side;", true)
  | 1 => ("RollingSync", "one", "LRollingSync$Side;", true)
  | 2 => ("RollingSync", "line", "LRollingSync$Line;", true)
  | _ => ("RollingSync", "run", "LRollingSync$Run;", true)
def tyX8 : Nat → FieldType := fun k => match k with
  | 0 => .object "RollingSync$Side"
  | 1 => .object "RollingSync$Side"
  | 2 => .object "RollingSync$Line"
  | _ => .object "RollingSync$Run"
theorem nmX8 : ∀ a, a < 4 → ∀ b, b < 4 → a ≠ b → (TX8 a).2.1 ≠ (TX8 b).2.1 := by decide +kernel
theorem tyX8_ok : ∀ k, k < 4 → parseFieldDescriptor (TX8 k).2.2.1 = some (tyX8 k) := by decide +kernel
abbrev cX8_init : ByteArray := prog_1_method_1_code
def yX8_init : MethodName := ⟨RX8, "<init>", "()V"⟩
abbrev cX8_write : ByteArray := prog_1_method_2_code
def yX8_write : MethodName := ⟨RX8, "write", "(IIIJI)I"⟩
abbrev cX8_again : ByteArray := prog_1_method_3_code
def yX8_again : MethodName := ⟨RX8, "again", "(IIII)I"⟩
abbrev cX8_trim : ByteArray := prog_1_method_4_code
def yX8_trim : MethodName := ⟨RX8, "trim", "(III)I"⟩
abbrev cX8_drop : ByteArray := prog_1_method_5_code
def yX8_drop : MethodName := ⟨RX8, "drop", "(II)I"⟩
abbrev cX8_same : ByteArray := prog_1_method_6_code
def yX8_same : MethodName := ⟨RX8, "same", "(II)I"⟩
abbrev cX8_at : ByteArray := prog_1_method_7_code
def yX8_at : MethodName := ⟨RX8, "at", "(III)I"⟩
abbrev cX8_size : ByteArray := prog_1_method_8_code
def yX8_size : MethodName := ⟨RX8, "size", "(II)I"⟩
abbrev cX8_node : ByteArray := prog_1_method_9_code
def yX8_node : MethodName := ⟨RX8, "node", "(II)J"⟩
abbrev cX8_begin : ByteArray := prog_1_method_10_code
def yX8_begin : MethodName := ⟨RX8, "begin", "(IIII)I"⟩
abbrev cX8_step : ByteArray := prog_1_method_11_code
def yX8_step : MethodName := ⟨RX8, "step", "(I)I"⟩
abbrev cX8_lose : ByteArray := prog_1_method_12_code
def yX8_lose : MethodName := ⟨RX8, "lose", "(I)I"⟩
abbrev cX8_cut : ByteArray := prog_1_method_13_code
def yX8_cut : MethodName := ⟨RX8, "cut", "()I"⟩
abbrev cX8_state : ByteArray := prog_1_method_14_code
def yX8_state : MethodName := ⟨RX8, "state", "(I)I"⟩
abbrev cX8_sent : ByteArray := prog_1_method_15_code
def yX8_sent : MethodName := ⟨RX8, "sent", "(I)J"⟩
abbrev cX8_built : ByteArray := prog_1_method_16_code
def yX8_built : MethodName := ⟨RX8, "built", "(I)I"⟩
abbrev cX8_sums : ByteArray := prog_1_method_17_code
def yX8_sums : MethodName := ⟨RX8, "sums", "(II)J"⟩
abbrev cX8_weak : ByteArray := prog_1_method_18_code
def yX8_weak : MethodName := ⟨RX8, "weak", "(IIII)J"⟩
abbrev cX8_isEnd : ByteArray := prog_1_method_19_code
def yX8_isEnd : MethodName := ⟨RX8, "isEnd", "(I)Z"⟩
abbrev cX8_isFile : ByteArray := prog_1_method_20_code
def yX8_isFile : MethodName := ⟨RX8, "isFile", "(I)Z"⟩
abbrev cX8_strong : ByteArray := prog_1_method_21_code
def yX8_strong : MethodName := ⟨RX8, "strong", "(JI)J"⟩
abbrev cX8_side : ByteArray := prog_1_method_22_code
def yX8_side : MethodName := ⟨RX8, "side", "(I)LRollingSync$Side;"⟩
abbrev cX8_existing : ByteArray := prog_1_method_23_code
def yX8_existing : MethodName := ⟨RX8, "existing", "(II)LRollingSync$Row;"⟩
def RX9 : String := "RollingSyncModel"
def TX9 : u_T := fun k => match k with
  | 0 => ("RollingSyncModel", "bytes", "[B", true)
  | 1 => ("RollingSyncModel", "sizes", "[I", true)
  | 2 => ("RollingSyncModel", "pair", "[B", true)
  | 3 => ("RollingSyncModel", "nodes", "[J", true)
  | 4 => ("RollingSyncModel", "is", "I", false)
  | 5 => ("RollingSyncModel", "source", "I", false)
  | 6 => ("RollingSyncModel", "block", "I", false)
  | 7 => ("RollingSyncModel", "firstK", "I", false)
  | 8 => ("RollingSyncModel", "rule", "I", false)
  | 9 => ("RollingSyncModel", "counts", "[I", true)
  | 10 => ("RollingSyncModel", "sent", "[J", true)
  | 11 => ("RollingSyncModel", "waiting", "[I", true)
  | 12 => ("RollingSyncModel", "waits", "I", false)
  | 13 => ("RollingSyncModel", "toDo", "[Z", true)
  | 14 => ("RollingSyncModel", "goes", "[Z", true)
  | 15 => ("RollingSyncModel", "due", "I", false)
  | 16 => ("RollingSyncModel", "file", "I", false)
  | 17 => ("RollingSyncModel", "tries", "I", false)
  | 18 => ("RollingSyncModel", "k", "I", false)
  | 19 => ("RollingSyncModel", "place", "I", false)
  | 20 => ("RollingSyncModel", "isBegun", "Z", false)
  | 21 => ("RollingSyncModel", "isDone", "Z", false)
  | 22 => ("RollingSyncModel", "built", "[B", true)
  | 23 => ("RollingSyncModel", "builtSize", "I", false)
  | 24 => ("RollingSyncModel", "sender", "I", false)
  | 25 => ("RollingSyncModel", "kind", "I", false)
  | 26 => ("RollingSyncModel", "size", "I", false)
  | 27 => ("RollingSyncModel", "what", "I", false)
  | 28 => ("RollingSyncModel", "number", "J", false)
  | 29 => ("RollingSyncModel", "load", "[B", true)
  | 30 => ("RollingSyncModel", "loads", "I", false)
  | 31 => ("RollingSyncModel", "isLost", "Z", false)
  | 32 => ("RollingSyncModel", "pause", "I", false)
  | 33 => ("RollingSyncModel", "weaks", "[J", true)
  | 34 => ("RollingSyncModel", "strongs", "[J", true)
  | 35 => ("RollingSyncModel", "blocks", "I", false)
  | 36 => ("RollingSyncModel", "weaksCame", "[J", true)
  | 37 => ("RollingSyncModel", "strongsCame", "[J", true)
  | 38 => ("RollingSyncModel", "blocksCame", "I", false)
  | 39 => ("RollingSyncModel", "kCame", "I", false)
  | 40 => ("RollingSyncModel", "losing", "[I", true)
  | _ => ("RollingSyncModel", "losings", "I", false)
def tyX9 : Nat → FieldType := fun k => match k with
  | 0 => .array .byte
  | 1 => .array .int
  | 2 => .array .byte
  | 3 => .array .long
  | 4 => .int
  | 5 => .int
  | 6 => .int
  | 7 => .int
  | 8 => .int
  | 9 => .array .int
  | 10 => .array .long
  | 11 => .array .int
  | 12 => .int
  | 13 => .array .boolean
  | 14 => .array .boolean
  | 15 => .int
  | 16 => .int
  | 17 => .int
  | 18 => .int
  | 19 => .int
  | 20 => .boolean
  | 21 => .boolean
  | 22 => .array .byte
  | 23 => .int
  | 24 => .int
  | 25 => .int
  | 26 => .int
  | 27 => .int
  | 28 => .long
  | 29 => .array .byte
  | 30 => .int
  | 31 => .boolean
  | 32 => .int
  | 33 => .array .long
  | 34 => .array .long
  | 35 => .int
  | 36 => .array .long
  | 37 => .array .long
  | 38 => .int
  | 39 => .int
  | 40 => .array .int
  | _ => .int
theorem nmX9 : ∀ a, a < 42 → ∀ b, b < 42 → a ≠ b → (TX9 a).2.1 ≠ (TX9 b).2.1 := by decide +kernel
theorem tyX9_ok : ∀ k, k < 42 → parseFieldDescriptor (TX9 k).2.2.1 = some (tyX9 k) := by decide +kernel
abbrev cX9_init : ByteArray := prog_11_method_1_code
def yX9_init : MethodName := ⟨RX9, "<init>", "()V"⟩
abbrev cX9_greater : ByteArray := prog_11_method_2_code
def yX9_greater : MethodName := ⟨RX9, "greater", "(II)I"⟩
abbrev cX9_lesser : ByteArray := prog_11_method_3_code
def yX9_lesser : MethodName := ⟨RX9, "lesser", "(II)I"⟩
abbrev cX9_isFile : ByteArray := prog_11_method_4_code
def yX9_isFile : MethodName := ⟨RX9, "isFile", "(II)Z"⟩
abbrev cX9_sizeOf : ByteArray := prog_11_method_5_code
def yX9_sizeOf : MethodName := ⟨RX9, "sizeOf", "(I)I"⟩
abbrev cX9_write : ByteArray := prog_11_method_6_code
def yX9_write : MethodName := ⟨RX9, "write", "(IIIJI)I"⟩
abbrev cX9_again : ByteArray := prog_11_method_7_code
def yX9_again : MethodName := ⟨RX9, "again", "(IIII)I"⟩
abbrev cX9_trim : ByteArray := prog_11_method_8_code
def yX9_trim : MethodName := ⟨RX9, "trim", "(III)I"⟩
abbrev cX9_drop : ByteArray := prog_11_method_9_code
def yX9_drop : MethodName := ⟨RX9, "drop", "(II)I"⟩
abbrev cX9_same : ByteArray := prog_11_method_10_code
def yX9_same : MethodName := ⟨RX9, "same", "(II)I"⟩
abbrev cX9_at : ByteArray := prog_11_method_11_code
def yX9_at : MethodName := ⟨RX9, "at", "(III)I"⟩
abbrev cX9_size : ByteArray := prog_11_method_12_code
def yX9_size : MethodName := ⟨RX9, "size", "(II)I"⟩
abbrev cX9_digest : ByteArray := prog_11_method_13_code
def yX9_digest : MethodName := ⟨RX9, "digest", "([BII)J"⟩
abbrev cX9_strong : ByteArray := prog_11_method_14_code
def yX9_strong : MethodName := ⟨RX9, "strong", "([BIII)J"⟩
abbrev cX9_weakOf : ByteArray := prog_11_method_15_code
def yX9_weakOf : MethodName := ⟨RX9, "weakOf", "([BII)J"⟩
abbrev cX9_weak : ByteArray := prog_11_method_16_code
def yX9_weak : MethodName := ⟨RX9, "weak", "(IIII)J"⟩
abbrev cX9_node : ByteArray := prog_11_method_17_code
def yX9_node : MethodName := ⟨RX9, "node", "(II)J"⟩
abbrev cX9_target : ByteArray := prog_11_method_18_code
def yX9_target : MethodName := ⟨RX9, "target", "()I"⟩
abbrev cX9_begin : ByteArray := prog_11_method_19_code
def yX9_begin : MethodName := ⟨RX9, "begin", "(IIII)I"⟩
abbrev cX9_step : ByteArray := prog_11_method_20_code
def yX9_step : MethodName := ⟨RX9, "step", "(I)I"⟩
abbrev cX9_steps : ByteArray := prog_11_method_21_code
def yX9_steps : MethodName := ⟨RX9, "steps", "()V"⟩
abbrev cX9_ends : ByteArray := prog_11_method_22_code
def yX9_ends : MethodName := ⟨RX9, "ends", "()V"⟩
abbrev cX9_isToLose : ByteArray := prog_11_method_23_code
def yX9_isToLose : MethodName := ⟨RX9, "isToLose", "()Z"⟩
abbrev cX9_leastToDo : ByteArray := prog_11_method_24_code
def yX9_leastToDo : MethodName := ⟨RX9, "leastToDo", "()I"⟩
abbrev cX9_message : ByteArray := prog_11_method_25_code
def yX9_message : MethodName := ⟨RX9, "message", "(III)V"⟩
abbrev cX9_makes : ByteArray := prog_11_method_26_code
def yX9_makes : MethodName := ⟨RX9, "makes", "()V"⟩
abbrev cX9_makesSums : ByteArray := prog_11_method_27_code
def yX9_makesSums : MethodName := ⟨RX9, "makesSums", "()V"⟩
abbrev cX9_makesOfFile : ByteArray := prog_11_method_28_code
def yX9_makesOfFile : MethodName := ⟨RX9, "makesOfFile", "()V"⟩
abbrev cX9_look : ByteArray := prog_11_method_29_code
def yX9_look : MethodName := ⟨RX9, "look", "(I)I"⟩
abbrev cX9_comes : ByteArray := prog_11_method_30_code
def yX9_comes : MethodName := ⟨RX9, "comes", "()V"⟩
abbrev cX9_builds : ByteArray := prog_11_method_31_code
def yX9_builds : MethodName := ⟨RX9, "builds", "(B)V"⟩
abbrev cX9_nodeComes : ByteArray := prog_11_method_32_code
def yX9_nodeComes : MethodName := ⟨RX9, "nodeComes", "()V"⟩
abbrev cX9_sumsCome : ByteArray := prog_11_method_33_code
def yX9_sumsCome : MethodName := ⟨RX9, "sumsCome", "()V"⟩
abbrev cX9_endComes : ByteArray := prog_11_method_34_code
def yX9_endComes : MethodName := ⟨RX9, "endComes", "()V"⟩
abbrev cX9_lose : ByteArray := prog_11_method_35_code
def yX9_lose : MethodName := ⟨RX9, "lose", "(I)I"⟩
abbrev cX9_cut : ByteArray := prog_11_method_36_code
def yX9_cut : MethodName := ⟨RX9, "cut", "()I"⟩
abbrev cX9_state : ByteArray := prog_11_method_37_code
def yX9_state : MethodName := ⟨RX9, "state", "(I)I"⟩
abbrev cX9_sent : ByteArray := prog_11_method_38_code
def yX9_sent : MethodName := ⟨RX9, "sent", "(I)J"⟩
abbrev cX9_built : ByteArray := prog_11_method_39_code
def yX9_built : MethodName := ⟨RX9, "built", "(I)I"⟩
abbrev cX9_sums : ByteArray := prog_11_method_40_code
def yX9_sums : MethodName := ⟨RX9, "sums", "(II)J"⟩
def RJ13 : String := "java/lang/Long"
abbrev cJ13_bitCount_95d88 : ByteArray := prog_12_method_50_code
def yJ13_bitCount_95d88 : MethodName := ⟨RJ13, "bitCount", "(J)I"⟩
def RJ9 : String := "java/lang/Math"
abbrev cJ9_max_7cf53 : ByteArray := prog_13_method_65_code
def yJ9_max_7cf53 : MethodName := ⟨RJ9, "max", "(II)I"⟩
abbrev cJ9_min_7cf53 : ByteArray := prog_13_method_69_code
def yJ9_min_7cf53 : MethodName := ⟨RJ9, "min", "(II)I"⟩
def RJ10 : String := "java/lang/System"
def RL : String := "RollingSyncLaw"
abbrev cL_law : ByteArray := code
def yL_law : MethodName := ⟨RL, "law", "([I)Z"⟩
abbrev vwCl : List vw_C := [(RX0, TX0, 3), (RX1, TX1, 6), (RX2, TX2, 17), (RX3, TX3, 2), (RX4, TX4, 15), (RX5, TX5, 6), (RX6, TX6, 3), (RX7, TX7, 5), (RX8, TX8, 4), (RX9, TX9, 42)]
