section
-- ===== PART A: goes FIRST, ahead of the names: the tables' words, and 'selects' of the private methods out of them =====
/-- a private method of a class that the tables say can be made, by its rows of tables_1 -/
def lw_okq (q : MethodName × Nat) : Prop := (q.1.cls ≠ "java/lang/invoke/MethodHandle" ∧ q.1.cls ≠ "java/lang/invoke/VarHandle") ∧ Cond.instantiable q.1.cls q.2 ∈ tables_1 ∧ Cond.privateMethod q.1 ∈ tables_1 ∧ Cond.instanceMethod q.1 ∈ tables_1
theorem lw_p0 : lw_okq (⟨"OilLine", "hasTank", "(II)Z"⟩, 9) := ⟨⟨by decide +kernel, by decide +kernel⟩, List.mem_of_getElem? (i := 14) (by decide +kernel), List.mem_of_getElem? (i := 347) (by decide +kernel), List.mem_of_getElem? (i := 348) (by decide +kernel)⟩
theorem lw_p1 : lw_okq (⟨"OilLine", "attempt", "(IIII)I"⟩, 9) := ⟨⟨by decide +kernel, by decide +kernel⟩, List.mem_of_getElem? (i := 14) (by decide +kernel), List.mem_of_getElem? (i := 360) (by decide +kernel), List.mem_of_getElem? (i := 361) (by decide +kernel)⟩
theorem lw_p2 : lw_okq (⟨"OilLine", "earlierAt", "(I)LOilLine$Moment;"⟩, 9) := ⟨⟨by decide +kernel, by decide +kernel⟩, List.mem_of_getElem? (i := 14) (by decide +kernel), List.mem_of_getElem? (i := 364) (by decide +kernel), List.mem_of_getElem? (i := 365) (by decide +kernel)⟩
theorem lw_p3 : lw_okq (⟨"OilLine$Moment", "step", "(LOilLine$Plan;LOilLine$Doors;LOilLine$Tables;)I"⟩, 7) := ⟨⟨by decide +kernel, by decide +kernel⟩, List.mem_of_getElem? (i := 134) (by decide +kernel), List.mem_of_getElem? (i := 400) (by decide +kernel), List.mem_of_getElem? (i := 401) (by decide +kernel)⟩
theorem lw_p4 : lw_okq (⟨"OilLine$Moment", "sinkFor", "(IILOilLine$Doors;LOilLine$Tables;)I"⟩, 7) := ⟨⟨by decide +kernel, by decide +kernel⟩, List.mem_of_getElem? (i := 134) (by decide +kernel), List.mem_of_getElem? (i := 404) (by decide +kernel), List.mem_of_getElem? (i := 405) (by decide +kernel)⟩
theorem lw_p5 : lw_okq (⟨"OilLine$Moment", "letOut", "(III)V"⟩, 7) := ⟨⟨by decide +kernel, by decide +kernel⟩, List.mem_of_getElem? (i := 134) (by decide +kernel), List.mem_of_getElem? (i := 417) (by decide +kernel), List.mem_of_getElem? (i := 418) (by decide +kernel)⟩
theorem lw_p6 : lw_okq (⟨"OilLine$Pipe", "farSide", "(IILOilLine$Tables;)I"⟩, 5) := ⟨⟨by decide +kernel, by decide +kernel⟩, List.mem_of_getElem? (i := 140) (by decide +kernel), List.mem_of_getElem? (i := 440) (by decide +kernel), List.mem_of_getElem? (i := 441) (by decide +kernel)⟩
theorem lw_p7 : lw_okq (⟨"OilLine$Pipe", "hindIsNext", "(II)Z"⟩, 5) := ⟨⟨by decide +kernel, by decide +kernel⟩, List.mem_of_getElem? (i := 140) (by decide +kernel), List.mem_of_getElem? (i := 448) (by decide +kernel), List.mem_of_getElem? (i := 449) (by decide +kernel)⟩
theorem lw_p8 : lw_okq (⟨"OilLine$Pipe", "mixOne", "(III)V"⟩, 5) := ⟨⟨by decide +kernel, by decide +kernel⟩, List.mem_of_getElem? (i := 140) (by decide +kernel), List.mem_of_getElem? (i := 452) (by decide +kernel), List.mem_of_getElem? (i := 453) (by decide +kernel)⟩
theorem lw_p9 : lw_okq (⟨"OilLine$Pipe", "clash", "(IILOilLine$Tables;)Z"⟩, 5) := ⟨⟨by decide +kernel, by decide +kernel⟩, List.mem_of_getElem? (i := 140) (by decide +kernel), List.mem_of_getElem? (i := 468) (by decide +kernel), List.mem_of_getElem? (i := 469) (by decide +kernel)⟩
theorem lw_p10 : lw_okq (⟨"OilLine", "hoursFor", "(III)I"⟩, 9) := ⟨⟨by decide +kernel, by decide +kernel⟩, List.mem_of_getElem? (i := 14) (by decide +kernel), List.mem_of_getElem? (i := 476) (by decide +kernel), List.mem_of_getElem? (i := 477) (by decide +kernel)⟩
theorem lw_p11 : lw_okq (⟨"OilLine", "register", "(II)I"⟩, 9) := ⟨⟨by decide +kernel, by decide +kernel⟩, List.mem_of_getElem? (i := 14) (by decide +kernel), List.mem_of_getElem? (i := 500) (by decide +kernel), List.mem_of_getElem? (i := 501) (by decide +kernel)⟩
theorem lw_p12 : lw_okq (⟨"OilLineModel", "isDoor", "(I)Z"⟩, 35) := ⟨⟨by decide +kernel, by decide +kernel⟩, List.mem_of_getElem? (i := 583) (by decide +kernel), List.mem_of_getElem? (i := 711) (by decide +kernel), List.mem_of_getElem? (i := 712) (by decide +kernel)⟩
theorem lw_p13 : lw_okq (⟨"OilLineModel", "isTank", "(II)Z"⟩, 35) := ⟨⟨by decide +kernel, by decide +kernel⟩, List.mem_of_getElem? (i := 583) (by decide +kernel), List.mem_of_getElem? (i := 738) (by decide +kernel), List.mem_of_getElem? (i := 739) (by decide +kernel)⟩
theorem lw_p14 : lw_okq (⟨"OilLineModel", "tries", "(IIII)I"⟩, 35) := ⟨⟨by decide +kernel, by decide +kernel⟩, List.mem_of_getElem? (i := 583) (by decide +kernel), List.mem_of_getElem? (i := 751) (by decide +kernel), List.mem_of_getElem? (i := 752) (by decide +kernel)⟩
theorem lw_p15 : lw_okq (⟨"OilLineModel", "writeDown", "()V"⟩, 35) := ⟨⟨by decide +kernel, by decide +kernel⟩, List.mem_of_getElem? (i := 583) (by decide +kernel), List.mem_of_getElem? (i := 755) (by decide +kernel), List.mem_of_getElem? (i := 756) (by decide +kernel)⟩
def lw_privs_1 : List (MethodName × Nat) := [(⟨"OilLine", "hasTank", "(II)Z"⟩, 9), (⟨"OilLine", "attempt", "(IIII)I"⟩, 9), (⟨"OilLine", "earlierAt", "(I)LOilLine$Moment;"⟩, 9), (⟨"OilLine$Moment", "step", "(LOilLine$Plan;LOilLine$Doors;LOilLine$Tables;)I"⟩, 7), (⟨"OilLine$Moment", "sinkFor", "(IILOilLine$Doors;LOilLine$Tables;)I"⟩, 7), (⟨"OilLine$Moment", "letOut", "(III)V"⟩, 7), (⟨"OilLine$Pipe", "farSide", "(IILOilLine$Tables;)I"⟩, 5), (⟨"OilLine$Pipe", "hindIsNext", "(II)Z"⟩, 5), (⟨"OilLine$Pipe", "mixOne", "(III)V"⟩, 5), (⟨"OilLine$Pipe", "clash", "(IILOilLine$Tables;)Z"⟩, 5), (⟨"OilLine", "hoursFor", "(III)I"⟩, 9), (⟨"OilLine", "register", "(II)I"⟩, 9), (⟨"OilLineModel", "isDoor", "(I)Z"⟩, 35), (⟨"OilLineModel", "isTank", "(II)Z"⟩, 35), (⟨"OilLineModel", "tries", "(IIII)I"⟩, 35), (⟨"OilLineModel", "writeDown", "()V"⟩, 35)]
theorem lw_r1 : ∀ q ∈ lw_privs_1, lw_okq q := List.forall_mem_cons.mpr ⟨lw_p0, List.forall_mem_cons.mpr ⟨lw_p1, List.forall_mem_cons.mpr ⟨lw_p2, List.forall_mem_cons.mpr ⟨lw_p3, List.forall_mem_cons.mpr ⟨lw_p4, List.forall_mem_cons.mpr ⟨lw_p5, List.forall_mem_cons.mpr ⟨lw_p6, List.forall_mem_cons.mpr ⟨lw_p7, List.forall_mem_cons.mpr ⟨lw_p8, List.forall_mem_cons.mpr ⟨lw_p9, List.forall_mem_cons.mpr ⟨lw_p10, List.forall_mem_cons.mpr ⟨lw_p11, List.forall_mem_cons.mpr ⟨lw_p12, List.forall_mem_cons.mpr ⟨lw_p13, List.forall_mem_cons.mpr ⟨lw_p14, List.forall_mem_cons.mpr ⟨lw_p15, fun _ h => absurd h List.not_mem_nil⟩⟩⟩⟩⟩⟩⟩⟩⟩⟩⟩⟩⟩⟩⟩⟩
theorem lw_p16 : lw_okq (⟨"OilLineModel", "note", "(I)V"⟩, 35) := ⟨⟨by decide +kernel, by decide +kernel⟩, List.mem_of_getElem? (i := 583) (by decide +kernel), List.mem_of_getElem? (i := 759) (by decide +kernel), List.mem_of_getElem? (i := 760) (by decide +kernel)⟩
theorem lw_p17 : lw_okq (⟨"OilLineModel", "steps", "(III)I"⟩, 35) := ⟨⟨by decide +kernel, by decide +kernel⟩, List.mem_of_getElem? (i := 583) (by decide +kernel), List.mem_of_getElem? (i := 763) (by decide +kernel), List.mem_of_getElem? (i := 764) (by decide +kernel)⟩
theorem lw_p18 : lw_okq (⟨"OilLineModel", "goesOut", "(II)Z"⟩, 35) := ⟨⟨by decide +kernel, by decide +kernel⟩, List.mem_of_getElem? (i := 583) (by decide +kernel), List.mem_of_getElem? (i := 767) (by decide +kernel), List.mem_of_getElem? (i := 768) (by decide +kernel)⟩
theorem lw_p19 : lw_okq (⟨"OilLineModel", "isPure", "(I)Z"⟩, 35) := ⟨⟨by decide +kernel, by decide +kernel⟩, List.mem_of_getElem? (i := 583) (by decide +kernel), List.mem_of_getElem? (i := 771) (by decide +kernel), List.mem_of_getElem? (i := 772) (by decide +kernel)⟩
theorem lw_p20 : lw_okq (⟨"OilLineModel", "fits", "(I)Z"⟩, 35) := ⟨⟨by decide +kernel, by decide +kernel⟩, List.mem_of_getElem? (i := 583) (by decide +kernel), List.mem_of_getElem? (i := 775) (by decide +kernel), List.mem_of_getElem? (i := 776) (by decide +kernel)⟩
theorem lw_p21 : lw_okq (⟨"OilLineModel", "mixes", "(III)V"⟩, 35) := ⟨⟨by decide +kernel, by decide +kernel⟩, List.mem_of_getElem? (i := 583) (by decide +kernel), List.mem_of_getElem? (i := 779) (by decide +kernel), List.mem_of_getElem? (i := 780) (by decide +kernel)⟩
theorem lw_p22 : lw_okq (⟨"OilLineModel", "border", "(I)I"⟩, 35) := ⟨⟨by decide +kernel, by decide +kernel⟩, List.mem_of_getElem? (i := 583) (by decide +kernel), List.mem_of_getElem? (i := 783) (by decide +kernel), List.mem_of_getElem? (i := 784) (by decide +kernel)⟩
theorem lw_p23 : lw_okq (⟨"OilLineModel", "neighbour", "(II)I"⟩, 35) := ⟨⟨by decide +kernel, by decide +kernel⟩, List.mem_of_getElem? (i := 583) (by decide +kernel), List.mem_of_getElem? (i := 787) (by decide +kernel), List.mem_of_getElem? (i := 788) (by decide +kernel)⟩
theorem lw_p24 : lw_okq (⟨"OilLineModel", "isWrong", "(I)Z"⟩, 35) := ⟨⟨by decide +kernel, by decide +kernel⟩, List.mem_of_getElem? (i := 583) (by decide +kernel), List.mem_of_getElem? (i := 791) (by decide +kernel), List.mem_of_getElem? (i := 792) (by decide +kernel)⟩
theorem lw_p25 : lw_okq (⟨"OilLineModel", "mayNot", "(II)Z"⟩, 35) := ⟨⟨by decide +kernel, by decide +kernel⟩, List.mem_of_getElem? (i := 583) (by decide +kernel), List.mem_of_getElem? (i := 795) (by decide +kernel), List.mem_of_getElem? (i := 796) (by decide +kernel)⟩
theorem lw_p26 : lw_okq (⟨"OilLineModel", "bringBack", "()V"⟩, 35) := ⟨⟨by decide +kernel, by decide +kernel⟩, List.mem_of_getElem? (i := 583) (by decide +kernel), List.mem_of_getElem? (i := 799) (by decide +kernel), List.mem_of_getElem? (i := 800) (by decide +kernel)⟩
theorem lw_p27 : lw_okq (⟨"OilLineModel", "noted", "()I"⟩, 35) := ⟨⟨by decide +kernel, by decide +kernel⟩, List.mem_of_getElem? (i := 583) (by decide +kernel), List.mem_of_getElem? (i := 803) (by decide +kernel), List.mem_of_getElem? (i := 804) (by decide +kernel)⟩
theorem lw_p28 : lw_okq (⟨"OilLineModel", "ends", "(III)V"⟩, 35) := ⟨⟨by decide +kernel, by decide +kernel⟩, List.mem_of_getElem? (i := 583) (by decide +kernel), List.mem_of_getElem? (i := 807) (by decide +kernel), List.mem_of_getElem? (i := 808) (by decide +kernel)⟩
theorem lw_p29 : lw_okq (⟨"OilLineModel", "late", "(I)I"⟩, 35) := ⟨⟨by decide +kernel, by decide +kernel⟩, List.mem_of_getElem? (i := 583) (by decide +kernel), List.mem_of_getElem? (i := 839) (by decide +kernel), List.mem_of_getElem? (i := 840) (by decide +kernel)⟩
def lw_privs_2 : List (MethodName × Nat) := [(⟨"OilLineModel", "note", "(I)V"⟩, 35), (⟨"OilLineModel", "steps", "(III)I"⟩, 35), (⟨"OilLineModel", "goesOut", "(II)Z"⟩, 35), (⟨"OilLineModel", "isPure", "(I)Z"⟩, 35), (⟨"OilLineModel", "fits", "(I)Z"⟩, 35), (⟨"OilLineModel", "mixes", "(III)V"⟩, 35), (⟨"OilLineModel", "border", "(I)I"⟩, 35), (⟨"OilLineModel", "neighbour", "(II)I"⟩, 35), (⟨"OilLineModel", "isWrong", "(I)Z"⟩, 35), (⟨"OilLineModel", "mayNot", "(II)Z"⟩, 35), (⟨"OilLineModel", "bringBack", "()V"⟩, 35), (⟨"OilLineModel", "noted", "()I"⟩, 35), (⟨"OilLineModel", "ends", "(III)V"⟩, 35), (⟨"OilLineModel", "late", "(I)I"⟩, 35)]
theorem lw_r2 : ∀ q ∈ lw_privs_2, lw_okq q := List.forall_mem_cons.mpr ⟨lw_p16, List.forall_mem_cons.mpr ⟨lw_p17, List.forall_mem_cons.mpr ⟨lw_p18, List.forall_mem_cons.mpr ⟨lw_p19, List.forall_mem_cons.mpr ⟨lw_p20, List.forall_mem_cons.mpr ⟨lw_p21, List.forall_mem_cons.mpr ⟨lw_p22, List.forall_mem_cons.mpr ⟨lw_p23, List.forall_mem_cons.mpr ⟨lw_p24, List.forall_mem_cons.mpr ⟨lw_p25, List.forall_mem_cons.mpr ⟨lw_p26, List.forall_mem_cons.mpr ⟨lw_p27, List.forall_mem_cons.mpr ⟨lw_p28, List.forall_mem_cons.mpr ⟨lw_p29, fun _ h => absurd h List.not_mem_nil⟩⟩⟩⟩⟩⟩⟩⟩⟩⟩⟩⟩⟩⟩
def lw_privs : List (MethodName × Nat) := lw_privs_1 ++ (lw_privs_2)
def lw_tbl : List Cond := k2_sels lw_privs ++ tables_1
theorem lw_privs_ok : ∀ q ∈ lw_privs, lw_okq q := by
  show ∀ q ∈ lw_privs_1 ++ (lw_privs_2), lw_okq q
  exact List.forall_mem_append.mpr ⟨lw_r1, lw_r2⟩
-- ===== end of PART A; then your names; then what follows =====
end
section
/-! ===== BEGIN printed: names, fields, word lists, decode rows ===== -/
def RX0 : String := "OilLine$Doors"
def TX0 : u_T := fun k => match k with
  | 0 => ("OilLine$Doors", "size", "I", false)
  | 1 => ("OilLine$Doors", "place", "[I", true)
  | 2 => ("OilLine$Doors", "rate", "[I", true)
  | 3 => ("OilLine$Doors", "isTank", "[Z", true)
  | 4 => ("OilLine$Doors", "least", "[I", true)
  | _ => ("OilLine$Doors", "most", "[I", true)
def tyX0 : Nat → FieldType := fun k => match k with
  | 0 => .int
  | 1 => .array .int
  | 2 => .array .int
  | 3 => .array .boolean
  | 4 => .array .int
  | _ => .array .int
abbrev wsX00 : List Cond := u_ws RX0 TX0 6
theorem nmX0 : ∀ a, a < 6 → ∀ b, b < 6 → a ≠ b → (TX0 a).2.1 ≠ (TX0 b).2.1 := by decide +kernel
theorem tyX0_ok : ∀ k, k < 6 → parseFieldDescriptor (TX0 k).2.2.1 = some (tyX0 k) := by decide +kernel
abbrev cX0_init : ByteArray := prog_2_method_1_code
def yX0_init : MethodName := ⟨RX0, "<init>", "()V"⟩
abbrev cX0_clear : ByteArray := prog_2_method_2_code
def yX0_clear : MethodName := ⟨RX0, "clear", "()V"⟩
abbrev cX0_has : ByteArray := prog_2_method_3_code
def yX0_has : MethodName := ⟨RX0, "has", "(I)Z"⟩
abbrev cX0_isTaken : ByteArray := prog_2_method_4_code
def yX0_isTaken : MethodName := ⟨RX0, "isTaken", "(I)Z"⟩
abbrev cX0_open : ByteArray := prog_2_method_5_code
def yX0_open : MethodName := ⟨RX0, "open", "(I)I"⟩
abbrev cX0_build : ByteArray := prog_2_method_6_code
def yX0_build : MethodName := ⟨RX0, "build", "(III)V"⟩
def RX1 : String := "OilLine$Moment"
def TX1 : u_T := fun k => match k with
  | 0 => ("OilLine$Moment", "time", "I", false)
  | 1 => ("OilLine$Moment", "cost", "I", false)
  | 2 => ("OilLine$Moment", "batches", "I", false)
  | 3 => ("OilLine$Moment", "pipe", "LOilLine$Pipe;", true)
  | 4 => ("OilLine$Moment", "stock", "LOilLine$Stock;", true)
  | 5 => ("OilLine$Moment", "wentOut", "[I", true)
  | _ => ("OilLine$Moment", "keptAt", "[I", true)
def tyX1 : Nat → FieldType := fun k => match k with
  | 0 => .int
  | 1 => .int
  | 2 => .int
  | 3 => .object "OilLine$Pipe"
  | 4 => .object "OilLine$Stock"
  | 5 => .array .int
  | _ => .array .int
abbrev wsX10 : List Cond := u_ws RX1 TX1 7
theorem nmX1 : ∀ a, a < 7 → ∀ b, b < 7 → a ≠ b → (TX1 a).2.1 ≠ (TX1 b).2.1 := by decide +kernel
theorem tyX1_ok : ∀ k, k < 7 → parseFieldDescriptor (TX1 k).2.2.1 = some (tyX1 k) := by decide +kernel
abbrev cX1_init : ByteArray := prog_3_method_1_code
def yX1_init : MethodName := ⟨RX1, "<init>", "()V"⟩
abbrev cX1_renew : ByteArray := prog_3_method_2_code
def yX1_renew : MethodName := ⟨RX1, "renew", "(I)V"⟩
abbrev cX1_copyFrom : ByteArray := prog_3_method_3_code
def yX1_copyFrom : MethodName := ⟨RX1, "copyFrom", "(LOilLine$Moment;)V"⟩
abbrev cX1_flow : ByteArray := prog_3_method_4_code
def yX1_flow : MethodName := ⟨RX1, "flow", "(LOilLine$Plan;ILOilLine$Doors;LOilLine$Tables;)I"⟩
abbrev cX1_step : ByteArray := prog_3_method_5_code
def yX1_step : MethodName := ⟨RX1, "step", "(LOilLine$Plan;LOilLine$Doors;LOilLine$Tables;)I"⟩
abbrev cX1_letOut : ByteArray := prog_3_method_6_code
def yX1_letOut : MethodName := ⟨RX1, "letOut", "(III)V"⟩
abbrev cX1_sinkFor : ByteArray := prog_3_method_7_code
def yX1_sinkFor : MethodName := ⟨RX1, "sinkFor", "(IILOilLine$Doors;LOilLine$Tables;)I"⟩
abbrev cX1_pass : ByteArray := prog_3_method_8_code
def yX1_pass : MethodName := ⟨RX1, "pass", "(ILOilLine$Tables;)V"⟩
def RX2 : String := "OilLine$Pipe"
def TX2 : u_T := fun k => match k with
  | 0 => ("OilLine$Pipe", "size", "I", false)
  | 1 => ("OilLine$Pipe", "batchOf", "[I", true)
  | 2 => ("OilLine$Pipe", "kindOf", "[I", true)
  | 3 => ("OilLine$Pipe", "foreOf", "[I", true)
  | _ => ("OilLine$Pipe", "went", "[I", true)
def tyX2 : Nat → FieldType := fun k => match k with
  | 0 => .int
  | 1 => .array .int
  | 2 => .array .int
  | 3 => .array .int
  | _ => .array .int
abbrev wsX20 : List Cond := u_ws RX2 TX2 5
theorem nmX2 : ∀ a, a < 5 → ∀ b, b < 5 → a ≠ b → (TX2 a).2.1 ≠ (TX2 b).2.1 := by decide +kernel
theorem tyX2_ok : ∀ k, k < 5 → parseFieldDescriptor (TX2 k).2.2.1 = some (tyX2 k) := by decide +kernel
abbrev cX2_init : ByteArray := prog_4_method_1_code
def yX2_init : MethodName := ⟨RX2, "<init>", "()V"⟩
abbrev cX2_renew : ByteArray := prog_4_method_2_code
def yX2_renew : MethodName := ⟨RX2, "renew", "(I)V"⟩
abbrev cX2_copyFrom : ByteArray := prog_4_method_3_code
def yX2_copyFrom : MethodName := ⟨RX2, "copyFrom", "(LOilLine$Pipe;)V"⟩
abbrev cX2_put : ByteArray := prog_4_method_4_code
def yX2_put : MethodName := ⟨RX2, "put", "(III)V"⟩
abbrev cX2_moveOn : ByteArray := prog_4_method_5_code
def yX2_moveOn : MethodName := ⟨RX2, "moveOn", "(II)V"⟩
abbrev cX2_isPure : ByteArray := prog_4_method_6_code
def yX2_isPure : MethodName := ⟨RX2, "isPure", "(I)Z"⟩
abbrev cX2_neighbourToBegin : ByteArray := prog_4_method_7_code
def yX2_neighbourToBegin : MethodName := ⟨RX2, "neighbourToBegin", "(I)I"⟩
abbrev cX2_neighbourToEnd : ByteArray := prog_4_method_8_code
def yX2_neighbourToEnd : MethodName := ⟨RX2, "neighbourToEnd", "(I)I"⟩
abbrev cX2_isBorder : ByteArray := prog_4_method_9_code
def yX2_isBorder : MethodName := ⟨RX2, "isBorder", "(I)Z"⟩
abbrev cX2_countBorders : ByteArray := prog_4_method_10_code
def yX2_countBorders : MethodName := ⟨RX2, "countBorders", "()I"⟩
abbrev cX2_countMixed : ByteArray := prog_4_method_11_code
def yX2_countMixed : MethodName := ⟨RX2, "countMixed", "()I"⟩
abbrev cX2_countOf : ByteArray := prog_4_method_12_code
def yX2_countOf : MethodName := ⟨RX2, "countOf", "(I)I"⟩
abbrev cX2_leastOf : ByteArray := prog_4_method_13_code
def yX2_leastOf : MethodName := ⟨RX2, "leastOf", "(I)I"⟩
abbrev cX2_greatestOf : ByteArray := prog_4_method_14_code
def yX2_greatestOf : MethodName := ⟨RX2, "greatestOf", "(I)I"⟩
abbrev cX2_mixBorders : ByteArray := prog_4_method_15_code
def yX2_mixBorders : MethodName := ⟨RX2, "mixBorders", "(IILOilLine$Tables;)V"⟩
abbrev cX2_farSide : ByteArray := prog_4_method_16_code
def yX2_farSide : MethodName := ⟨RX2, "farSide", "(IILOilLine$Tables;)I"⟩
abbrev cX2_hindIsNext : ByteArray := prog_4_method_17_code
def yX2_hindIsNext : MethodName := ⟨RX2, "hindIsNext", "(II)Z"⟩
abbrev cX2_mixOne : ByteArray := prog_4_method_18_code
def yX2_mixOne : MethodName := ⟨RX2, "mixOne", "(III)V"⟩
abbrev cX2_clashesAt : ByteArray := prog_4_method_19_code
def yX2_clashesAt : MethodName := ⟨RX2, "clashesAt", "(ILOilLine$Tables;)Z"⟩
abbrev cX2_clash : ByteArray := prog_4_method_20_code
def yX2_clash : MethodName := ⟨RX2, "clash", "(IILOilLine$Tables;)Z"⟩
def RX3 : String := "OilLine$Plan"
def TX3 : u_T := fun k => match k with
  | 0 => ("OilLine$Plan", "kind", "I", false)
  | 1 => ("OilLine$Plan", "sourceTank", "I", false)
  | 2 => ("OilLine$Plan", "sinkDoor", "I", false)
  | 3 => ("OilLine$Plan", "from", "I", false)
  | _ => ("OilLine$Plan", "to", "I", false)
def tyX3 : Nat → FieldType := fun k => match k with
  | 0 => .int
  | 1 => .int
  | 2 => .int
  | 3 => .int
  | _ => .int
abbrev wsX30 : List Cond := u_ws RX3 TX3 5
theorem nmX3 : ∀ a, a < 5 → ∀ b, b < 5 → a ≠ b → (TX3 a).2.1 ≠ (TX3 b).2.1 := by decide +kernel
theorem tyX3_ok : ∀ k, k < 5 → parseFieldDescriptor (TX3 k).2.2.1 = some (tyX3 k) := by decide +kernel
abbrev cX3_init : ByteArray := prog_5_method_1_code
def yX3_init : MethodName := ⟨RX3, "<init>", "()V"⟩
abbrev cX3_set : ByteArray := prog_5_method_2_code
def yX3_set : MethodName := ⟨RX3, "set", "(IIILOilLine$Doors;)V"⟩
def RX4 : String := "OilLine$Stock"
def TX4 : u_T := fun k => match k with
  | 0 => ("OilLine$Stock", "amount", "[I", true)
  | 1 => ("OilLine$Stock", "foreign", "[I", true)
  | 2 => ("OilLine$Stock", "came", "[I", true)
  | _ => ("OilLine$Stock", "slop", "[I", true)
def tyX4 : Nat → FieldType := fun k => match k with
  | 0 => .array .int
  | 1 => .array .int
  | 2 => .array .int
  | _ => .array .int
abbrev wsX40 : List Cond := u_ws RX4 TX4 4
theorem nmX4 : ∀ a, a < 4 → ∀ b, b < 4 → a ≠ b → (TX4 a).2.1 ≠ (TX4 b).2.1 := by decide +kernel
theorem tyX4_ok : ∀ k, k < 4 → parseFieldDescriptor (TX4 k).2.2.1 = some (tyX4 k) := by decide +kernel
abbrev cX4_init : ByteArray := prog_6_method_1_code
def yX4_init : MethodName := ⟨RX4, "<init>", "()V"⟩
abbrev cX4_clear : ByteArray := prog_6_method_2_code
def yX4_clear : MethodName := ⟨RX4, "clear", "()V"⟩
abbrev cX4_copyFrom : ByteArray := prog_6_method_3_code
def yX4_copyFrom : MethodName := ⟨RX4, "copyFrom", "(LOilLine$Stock;)V"⟩
abbrev cX4_fill : ByteArray := prog_6_method_4_code
def yX4_fill : MethodName := ⟨RX4, "fill", "(II)V"⟩
abbrev cX4_bearsForeign : ByteArray := prog_6_method_5_code
def yX4_bearsForeign : MethodName := ⟨RX4, "bearsForeign", "(II)Z"⟩
abbrev cX4_putOne : ByteArray := prog_6_method_6_code
def yX4_putOne : MethodName := ⟨RX4, "putOne", "(IZ)V"⟩
abbrev cX4_takeOne : ByteArray := prog_6_method_7_code
def yX4_takeOne : MethodName := ⟨RX4, "takeOne", "(I)V"⟩
abbrev cX4_slopOfAll : ByteArray := prog_6_method_8_code
def yX4_slopOfAll : MethodName := ⟨RX4, "slopOfAll", "()I"⟩
def RX5 : String := "OilLine$Tables"
def TX5 : u_T := fun k => match k with
  | 0 => ("OilLine$Tables", "may", "[Z", true)
  | 1 => ("OilLine$Tables", "mix", "[I", true)
  | 2 => ("OilLine$Tables", "grace", "[I", true)
  | _ => ("OilLine$Tables", "price", "[I", true)
def tyX5 : Nat → FieldType := fun k => match k with
  | 0 => .array .boolean
  | 1 => .array .int
  | 2 => .array .int
  | _ => .array .int
abbrev wsX50 : List Cond := u_ws RX5 TX5 4
theorem nmX5 : ∀ a, a < 4 → ∀ b, b < 4 → a ≠ b → (TX5 a).2.1 ≠ (TX5 b).2.1 := by decide +kernel
theorem tyX5_ok : ∀ k, k < 4 → parseFieldDescriptor (TX5 k).2.2.1 = some (tyX5 k) := by decide +kernel
abbrev cX5_init : ByteArray := prog_7_method_1_code
def yX5_init : MethodName := ⟨RX5, "<init>", "()V"⟩
abbrev cX5_tellPair : ByteArray := prog_7_method_2_code
def yX5_tellPair : MethodName := ⟨RX5, "tellPair", "(IIZI)V"⟩
abbrev cX5_mayFollow : ByteArray := prog_7_method_3_code
def yX5_mayFollow : MethodName := ⟨RX5, "mayFollow", "(II)Z"⟩
abbrev cX5_mixOf : ByteArray := prog_7_method_4_code
def yX5_mixOf : MethodName := ⟨RX5, "mixOf", "(II)I"⟩
abbrev cX5_priceAt : ByteArray := prog_7_method_5_code
def yX5_priceAt : MethodName := ⟨RX5, "priceAt", "(I)I"⟩
def RX6 : String := "OilLine$Wishes"
def TX6 : u_T := fun k => match k with
  | 0 => ("OilLine$Wishes", "size", "I", false)
  | 1 => ("OilLine$Wishes", "tank", "[I", true)
  | 2 => ("OilLine$Wishes", "wanted", "[I", true)
  | 3 => ("OilLine$Wishes", "by", "[I", true)
  | _ => ("OilLine$Wishes", "cameAhead", "[I", true)
def tyX6 : Nat → FieldType := fun k => match k with
  | 0 => .int
  | 1 => .array .int
  | 2 => .array .int
  | 3 => .array .int
  | _ => .array .int
abbrev wsX60 : List Cond := u_ws RX6 TX6 5
theorem nmX6 : ∀ a, a < 5 → ∀ b, b < 5 → a ≠ b → (TX6 a).2.1 ≠ (TX6 b).2.1 := by decide +kernel
theorem tyX6_ok : ∀ k, k < 5 → parseFieldDescriptor (TX6 k).2.2.1 = some (tyX6 k) := by decide +kernel
abbrev cX6_init : ByteArray := prog_8_method_1_code
def yX6_init : MethodName := ⟨RX6, "<init>", "()V"⟩
abbrev cX6_tell : ByteArray := prog_8_method_2_code
def yX6_tell : MethodName := ⟨RX6, "tell", "(IIII)I"⟩
abbrev cX6_wanting : ByteArray := prog_8_method_3_code
def yX6_wanting : MethodName := ⟨RX6, "wanting", "(ILOilLine$Stock;)I"⟩
abbrev cX6_keep : ByteArray := prog_8_method_4_code
def yX6_keep : MethodName := ⟨RX6, "keep", "(LOilLine$Moment;)V"⟩
abbrev cX6_lateBy : ByteArray := prog_8_method_5_code
def yX6_lateBy : MethodName := ⟨RX6, "lateBy", "(ILOilLine$Moment;)I"⟩
abbrev cX6_lateByAll : ByteArray := prog_8_method_6_code
def yX6_lateByAll : MethodName := ⟨RX6, "lateByAll", "(LOilLine$Moment;)I"⟩
def RX7 : String := "OilLine"
def TX7 : u_T := fun k => match k with
  | 0 => ("OilLine", "tables", "LOilLine$Tables;", true)
  | 1 => ("OilLine", "doors", "LOilLine$Doors;", true)
  | 2 => ("OilLine", "wishes", "LOilLine$Wishes;", true)
  | 3 => ("OilLine", "plan", "LOilLine$Plan;", true)
  | 4 => ("OilLine", "batchKind", "[I", true)
  | 5 => ("OilLine", "batchDoor", "[I", true)
  | 6 => ("OilLine", "now", "LOilLine$Moment;", true)
  | 7 => ("OilLine", "earlier", "[LOilLine$Moment;", true)
  | _ => ("OilLine", "undoable", "I", false)
def tyX7 : Nat → FieldType := fun k => match k with
  | 0 => .object "OilLine$Tables"
  | 1 => .object "OilLine$Doors"
  | 2 => .object "OilLine$Wishes"
  | 3 => .object "OilLine$Plan"
  | 4 => .array .int
  | 5 => .array .int
  | 6 => .object "OilLine$Moment"
  | 7 => .array (.object "OilLine$Moment")
  | _ => .int
abbrev wsX70 : List Cond := u_ws RX7 TX7 9
theorem nmX7 : ∀ a, a < 9 → ∀ b, b < 9 → a ≠ b → (TX7 a).2.1 ≠ (TX7 b).2.1 := by decide +kernel
theorem tyX7_ok : ∀ k, k < 9 → parseFieldDescriptor (TX7 k).2.2.1 = some (tyX7 k) := by decide +kernel
abbrev cX7_init : ByteArray := prog_1_method_1_code
def yX7_init : MethodName := ⟨RX7, "<init>", "()V"⟩
abbrev cX7_line : ByteArray := prog_1_method_2_code
def yX7_line : MethodName := ⟨RX7, "line", "(I)I"⟩
abbrev cX7_door : ByteArray := prog_1_method_3_code
def yX7_door : MethodName := ⟨RX7, "door", "(I)I"⟩
abbrev cX7_tank : ByteArray := prog_1_method_4_code
def yX7_tank : MethodName := ⟨RX7, "tank", "(IIIII)I"⟩
abbrev cX7_follow : ByteArray := prog_1_method_5_code
def yX7_follow : MethodName := ⟨RX7, "follow", "(IIII)I"⟩
abbrev cX7_grace : ByteArray := prog_1_method_6_code
def yX7_grace : MethodName := ⟨RX7, "grace", "(II)I"⟩
abbrev cX7_rate : ByteArray := prog_1_method_7_code
def yX7_rate : MethodName := ⟨RX7, "rate", "(II)I"⟩
abbrev cX7_price : ByteArray := prog_1_method_8_code
def yX7_price : MethodName := ⟨RX7, "price", "(II)I"⟩
abbrev cX7_wish : ByteArray := prog_1_method_9_code
def yX7_wish : MethodName := ⟨RX7, "wish", "(IIII)I"⟩
abbrev cX7_push : ByteArray := prog_1_method_10_code
def yX7_push : MethodName := ⟨RX7, "push", "(IIII)I"⟩
abbrev cX7_trial : ByteArray := prog_1_method_11_code
def yX7_trial : MethodName := ⟨RX7, "trial", "(IIII)I"⟩
abbrev cX7_undo : ByteArray := prog_1_method_12_code
def yX7_undo : MethodName := ⟨RX7, "undo", "()I"⟩
abbrev cX7_wait : ByteArray := prog_1_method_13_code
def yX7_wait : MethodName := ⟨RX7, "wait", "(I)I"⟩
abbrev cX7_at : ByteArray := prog_1_method_14_code
def yX7_at : MethodName := ⟨RX7, "at", "(II)I"⟩
abbrev cX7_batch : ByteArray := prog_1_method_15_code
def yX7_batch : MethodName := ⟨RX7, "batch", "(II)I"⟩
abbrev cX7_tankOf : ByteArray := prog_1_method_16_code
def yX7_tankOf : MethodName := ⟨RX7, "tankOf", "(III)I"⟩
abbrev cX7_about : ByteArray := prog_1_method_17_code
def yX7_about : MethodName := ⟨RX7, "about", "(II)I"⟩
abbrev cX7_wished : ByteArray := prog_1_method_18_code
def yX7_wished : MethodName := ⟨RX7, "wished", "(II)I"⟩
abbrev cX7_count : ByteArray := prog_1_method_19_code
def yX7_count : MethodName := ⟨RX7, "count", "(I)I"⟩
abbrev cX7_borders : ByteArray := prog_1_method_20_code
def yX7_borders : MethodName := ⟨RX7, "borders", "()I"⟩
abbrev cX7_attempt : ByteArray := prog_1_method_21_code
def yX7_attempt : MethodName := ⟨RX7, "attempt", "(IIII)I"⟩
abbrev cX7_register : ByteArray := prog_1_method_22_code
def yX7_register : MethodName := ⟨RX7, "register", "(II)I"⟩
abbrev cX7_hoursFor : ByteArray := prog_1_method_23_code
def yX7_hoursFor : MethodName := ⟨RX7, "hoursFor", "(III)I"⟩
abbrev cX7_earlierAt : ByteArray := prog_1_method_24_code
def yX7_earlierAt : MethodName := ⟨RX7, "earlierAt", "(I)LOilLine$Moment;"⟩
abbrev cX7_hasTank : ByteArray := prog_1_method_25_code
def yX7_hasTank : MethodName := ⟨RX7, "hasTank", "(II)Z"⟩
abbrev cX7_isKind : ByteArray := prog_1_method_26_code
def yX7_isKind : MethodName := ⟨RX7, "isKind", "(I)Z"⟩
abbrev cX7_within : ByteArray := prog_1_method_27_code
def yX7_within : MethodName := ⟨RX7, "within", "(III)Z"⟩
abbrev cX7_tankNumber : ByteArray := prog_1_method_28_code
def yX7_tankNumber : MethodName := ⟨RX7, "tankNumber", "(II)I"⟩
abbrev cX7_exchange : ByteArray := prog_1_method_29_code
def yX7_exchange : MethodName := ⟨RX7, "exchange", "([III)I"⟩
def RX8 : String := "OilLineModel"
def TX8 : u_T := fun k => match k with
  | 0 => ("OilLineModel", "thrown", "I", false)
  | 1 => ("OilLineModel", "measures", "I", false)
  | 2 => ("OilLineModel", "batch", "[I", true)
  | 3 => ("OilLineModel", "hind", "[I", true)
  | 4 => ("OilLineModel", "fore", "[I", true)
  | 5 => ("OilLineModel", "went", "[I", true)
  | 6 => ("OilLineModel", "batches", "I", false)
  | 7 => ("OilLineModel", "batchKind", "[I", true)
  | 8 => ("OilLineModel", "batchDoor", "[I", true)
  | 9 => ("OilLineModel", "batchOut", "[I", true)
  | 10 => ("OilLineModel", "doors", "I", false)
  | 11 => ("OilLineModel", "place", "[I", true)
  | 12 => ("OilLineModel", "rates", "[I", true)
  | 13 => ("OilLineModel", "slop", "[I", true)
  | 14 => ("OilLineModel", "hasTank", "[Z", true)
  | 15 => ("OilLineModel", "least", "[I", true)
  | 16 => ("OilLineModel", "most", "[I", true)
  | 17 => ("OilLineModel", "amount", "[I", true)
  | 18 => ("OilLineModel", "foreign", "[I", true)
  | 19 => ("OilLineModel", "came", "[I", true)
  | 20 => ("OilLineModel", "never", "[Z", true)
  | 21 => ("OilLineModel", "mix", "[I", true)
  | 22 => ("OilLineModel", "grace", "[I", true)
  | 23 => ("OilLineModel", "price", "[I", true)
  | 24 => ("OilLineModel", "time", "I", false)
  | 25 => ("OilLineModel", "cost", "I", false)
  | 26 => ("OilLineModel", "wishes", "I", false)
  | 27 => ("OilLineModel", "wishTank", "[I", true)
  | 28 => ("OilLineModel", "wishMany", "[I", true)
  | 29 => ("OilLineModel", "wishBy", "[I", true)
  | 30 => ("OilLineModel", "wishFrom", "[I", true)
  | 31 => ("OilLineModel", "keptAt", "[I", true)
  | 32 => ("OilLineModel", "book", "[I", true)
  | 33 => ("OilLineModel", "pages", "I", false)
  | _ => ("OilLineModel", "at", "I", false)
def tyX8 : Nat → FieldType := fun k => match k with
  | 0 => .int
  | 1 => .int
  | 2 => .array .int
  | 3 => .array .int
  | 4 => .array .int
  | 5 => .array .int
  | 6 => .int
  | 7 => .array .int
  | 8 => .array .int
  | 9 => .array .int
  | 10 => .int
  | 11 => .array .int
  | 12 => .array .int
  | 13 => .array .int
  | 14 => .array .boolean
  | 15 => .array .int
  | 16 => .array .int
  | 17 => .array .int
  | 18 => .array .int
  | 19 => .array .int
  | 20 => .array .boolean
  | 21 => .array .int
  | 22 => .array .int
  | 23 => .array .int
  | 24 => .int
  | 25 => .int
  | 26 => .int
  | 27 => .array .int
  | 28 => .array .int
  | 29 => .array .int
  | 30 => .array .int
  | 31 => .array .int
  | 32 => .array .int
  | 33 => .int
  | _ => .int
abbrev wsX80 : List Cond := u_ws RX8 TX8 35
theorem nmX8 : ∀ a, a < 35 → ∀ b, b < 35 → a ≠ b → (TX8 a).2.1 ≠ (TX8 b).2.1 := by decide +kernel
theorem tyX8_ok : ∀ k, k < 35 → parseFieldDescriptor (TX8 k).2.2.1 = some (tyX8 k) := by decide +kernel
abbrev cX8_in : ByteArray := prog_10_method_2_code
def yX8_in : MethodName := ⟨RX8, "in", "(III)Z"⟩
abbrev cX8_init : ByteArray := prog_10_method_3_code
def yX8_init : MethodName := ⟨RX8, "<init>", "()V"⟩
abbrev cX8_line : ByteArray := prog_10_method_4_code
def yX8_line : MethodName := ⟨RX8, "line", "(I)I"⟩
abbrev cX8_isDoor : ByteArray := prog_10_method_5_code
def yX8_isDoor : MethodName := ⟨RX8, "isDoor", "(I)Z"⟩
abbrev cX8_isKind : ByteArray := prog_10_method_6_code
def yX8_isKind : MethodName := ⟨RX8, "isKind", "(I)Z"⟩
abbrev cX8_isTank : ByteArray := prog_10_method_7_code
def yX8_isTank : MethodName := ⟨RX8, "isTank", "(II)Z"⟩
abbrev cX8_door : ByteArray := prog_10_method_8_code
def yX8_door : MethodName := ⟨RX8, "door", "(I)I"⟩
abbrev cX8_tank : ByteArray := prog_10_method_9_code
def yX8_tank : MethodName := ⟨RX8, "tank", "(IIIII)I"⟩
abbrev cX8_follow : ByteArray := prog_10_method_10_code
def yX8_follow : MethodName := ⟨RX8, "follow", "(IIII)I"⟩
abbrev cX8_grace : ByteArray := prog_10_method_11_code
def yX8_grace : MethodName := ⟨RX8, "grace", "(II)I"⟩
abbrev cX8_rate : ByteArray := prog_10_method_12_code
def yX8_rate : MethodName := ⟨RX8, "rate", "(II)I"⟩
abbrev cX8_price : ByteArray := prog_10_method_13_code
def yX8_price : MethodName := ⟨RX8, "price", "(II)I"⟩
abbrev cX8_wish : ByteArray := prog_10_method_14_code
def yX8_wish : MethodName := ⟨RX8, "wish", "(IIII)I"⟩
abbrev cX8_wait : ByteArray := prog_10_method_15_code
def yX8_wait : MethodName := ⟨RX8, "wait", "(I)I"⟩
abbrev cX8_note : ByteArray := prog_10_method_16_code
def yX8_note : MethodName := ⟨RX8, "note", "(I)V"⟩
abbrev cX8_noted : ByteArray := prog_10_method_17_code
def yX8_noted : MethodName := ⟨RX8, "noted", "()I"⟩
abbrev cX8_writeDown : ByteArray := prog_10_method_18_code
def yX8_writeDown : MethodName := ⟨RX8, "writeDown", "()V"⟩
abbrev cX8_bringBack : ByteArray := prog_10_method_19_code
def yX8_bringBack : MethodName := ⟨RX8, "bringBack", "()V"⟩
abbrev cX8_isPure : ByteArray := prog_10_method_20_code
def yX8_isPure : MethodName := ⟨RX8, "isPure", "(I)Z"⟩
abbrev cX8_neighbour : ByteArray := prog_10_method_21_code
def yX8_neighbour : MethodName := ⟨RX8, "neighbour", "(II)I"⟩
abbrev cX8_border : ByteArray := prog_10_method_22_code
def yX8_border : MethodName := ⟨RX8, "border", "(I)I"⟩
abbrev cX8_mayNot : ByteArray := prog_10_method_23_code
def yX8_mayNot : MethodName := ⟨RX8, "mayNot", "(II)Z"⟩
abbrev cX8_isWrong : ByteArray := prog_10_method_24_code
def yX8_isWrong : MethodName := ⟨RX8, "isWrong", "(I)Z"⟩
abbrev cX8_fits : ByteArray := prog_10_method_25_code
def yX8_fits : MethodName := ⟨RX8, "fits", "(I)Z"⟩
abbrev cX8_goesOut : ByteArray := prog_10_method_26_code
def yX8_goesOut : MethodName := ⟨RX8, "goesOut", "(II)Z"⟩
abbrev cX8_mixes : ByteArray := prog_10_method_27_code
def yX8_mixes : MethodName := ⟨RX8, "mixes", "(III)V"⟩
abbrev cX8_steps : ByteArray := prog_10_method_28_code
def yX8_steps : MethodName := ⟨RX8, "steps", "(III)I"⟩
abbrev cX8_ends : ByteArray := prog_10_method_29_code
def yX8_ends : MethodName := ⟨RX8, "ends", "(III)V"⟩
abbrev cX8_tries : ByteArray := prog_10_method_30_code
def yX8_tries : MethodName := ⟨RX8, "tries", "(IIII)I"⟩
abbrev cX8_push : ByteArray := prog_10_method_31_code
def yX8_push : MethodName := ⟨RX8, "push", "(IIII)I"⟩
abbrev cX8_trial : ByteArray := prog_10_method_32_code
def yX8_trial : MethodName := ⟨RX8, "trial", "(IIII)I"⟩
abbrev cX8_undo : ByteArray := prog_10_method_33_code
def yX8_undo : MethodName := ⟨RX8, "undo", "()I"⟩
abbrev cX8_at : ByteArray := prog_10_method_34_code
def yX8_at : MethodName := ⟨RX8, "at", "(II)I"⟩
abbrev cX8_batch : ByteArray := prog_10_method_35_code
def yX8_batch : MethodName := ⟨RX8, "batch", "(II)I"⟩
abbrev cX8_tankOf : ByteArray := prog_10_method_36_code
def yX8_tankOf : MethodName := ⟨RX8, "tankOf", "(III)I"⟩
abbrev cX8_about : ByteArray := prog_10_method_37_code
def yX8_about : MethodName := ⟨RX8, "about", "(II)I"⟩
abbrev cX8_late : ByteArray := prog_10_method_38_code
def yX8_late : MethodName := ⟨RX8, "late", "(I)I"⟩
abbrev cX8_wished : ByteArray := prog_10_method_39_code
def yX8_wished : MethodName := ⟨RX8, "wished", "(II)I"⟩
abbrev cX8_count : ByteArray := prog_10_method_40_code
def yX8_count : MethodName := ⟨RX8, "count", "(I)I"⟩
abbrev cX8_borders : ByteArray := prog_10_method_41_code
def yX8_borders : MethodName := ⟨RX8, "borders", "()I"⟩
def RJ9 : String := "java/lang/Math"
def TJ9 : u_T := fun k => match k with
  | _ => ("", "", "", false)
def tyJ9 : Nat → FieldType := fun k => match k with
  | _ => .int
abbrev wsJ90 : List Cond := u_ws RJ9 TJ9 0
theorem nmJ9 : ∀ a, a < 0 → ∀ b, b < 0 → a ≠ b → (TJ9 a).2.1 ≠ (TJ9 b).2.1 := by decide +kernel
theorem tyJ9_ok : ∀ k, k < 0 → parseFieldDescriptor (TJ9 k).2.2.1 = some (tyJ9 k) := by decide +kernel
abbrev cJ9_floorMod_7cf53 : ByteArray := prog_11_method_50_code
def yJ9_floorMod_7cf53 : MethodName := ⟨RJ9, "floorMod", "(II)I"⟩
abbrev cJ9_max_7cf53 : ByteArray := prog_11_method_65_code
def yJ9_max_7cf53 : MethodName := ⟨RJ9, "max", "(II)I"⟩
abbrev cJ9_min_7cf53 : ByteArray := prog_11_method_69_code
def yJ9_min_7cf53 : MethodName := ⟨RJ9, "min", "(II)I"⟩
def RJ10 : String := "java/lang/System"
def TJ10 : u_T := fun k => match k with
  | _ => ("", "", "", false)
def tyJ10 : Nat → FieldType := fun k => match k with
  | _ => .int
abbrev wsJ100 : List Cond := u_ws RJ10 TJ10 0
theorem nmJ10 : ∀ a, a < 0 → ∀ b, b < 0 → a ≠ b → (TJ10 a).2.1 ≠ (TJ10 b).2.1 := by decide +kernel
theorem tyJ10_ok : ∀ k, k < 0 → parseFieldDescriptor (TJ10 k).2.2.1 = some (tyJ10 k) := by decide +kernel
def RJ7 : String := "java/util/Arrays"
def TJ7 : u_T := fun k => match k with
  | _ => ("", "", "", false)
def tyJ7 : Nat → FieldType := fun k => match k with
  | _ => .int
abbrev wsJ70 : List Cond := u_ws RJ7 TJ7 0
theorem nmJ7 : ∀ a, a < 0 → ∀ b, b < 0 → a ≠ b → (TJ7 a).2.1 ≠ (TJ7 b).2.1 := by decide +kernel
theorem tyJ7_ok : ∀ k, k < 0 → parseFieldDescriptor (TJ7 k).2.2.1 = some (tyJ7 k) := by decide +kernel
abbrev cJ7_fill_53178 : ByteArray := prog_13_method_103_code
def yJ7_fill_53178 : MethodName := ⟨RJ7, "fill", "([II)V"⟩
def RL : String := "OilLineLaw"
abbrev cL_law : ByteArray := code
def yL_law : MethodName := ⟨RL, "law", "([I)Z"⟩
abbrev vwCl : List vw_C := [(RX0, TX0, 6), (RX1, TX1, 7), (RX2, TX2, 5), (RX3, TX3, 5), (RX4, TX4, 4), (RX5, TX5, 4), (RX6, TX6, 5), (RX7, TX7, 9), (RX8, TX8, 35)]
end
section
theorem dX0_init_0 : decode cX0_init 0 = .ok (.aload_n 0, 1) := by decide +kernel
theorem dX0_init_1 : decode cX0_init 1 = .ok (.invokespecial 3, 3) := by decide +kernel
theorem dX0_init_4 : decode cX0_init 4 = .ok (.aload_n 0, 1) := by decide +kernel
theorem dX0_init_5 : decode cX0_init 5 = .ok (.iconst 0, 1) := by decide +kernel
theorem dX0_init_6 : decode cX0_init 6 = .ok (.putfield 9, 3) := by decide +kernel
theorem dX0_init_9 : decode cX0_init 9 = .ok (.aload_n 0, 1) := by decide +kernel
theorem dX0_init_10 : decode cX0_init 10 = .ok (.bipush 6, 2) := by decide +kernel
theorem dX0_init_12 : decode cX0_init 12 = .ok (.newarray .int, 2) := by decide +kernel
theorem dX0_init_14 : decode cX0_init 14 = .ok (.putfield 15, 3) := by decide +kernel
theorem dX0_init_17 : decode cX0_init 17 = .ok (.aload_n 0, 1) := by decide +kernel
theorem dX0_init_18 : decode cX0_init 18 = .ok (.bipush 6, 2) := by decide +kernel
theorem dX0_init_20 : decode cX0_init 20 = .ok (.newarray .int, 2) := by decide +kernel
theorem dX0_init_22 : decode cX0_init 22 = .ok (.putfield 19, 3) := by decide +kernel
theorem dX0_init_25 : decode cX0_init 25 = .ok (.aload_n 0, 1) := by decide +kernel
theorem dX0_init_26 : decode cX0_init 26 = .ok (.bipush 48, 2) := by decide +kernel
theorem dX0_init_28 : decode cX0_init 28 = .ok (.newarray .boolean, 2) := by decide +kernel
theorem dX0_init_30 : decode cX0_init 30 = .ok (.putfield 22, 3) := by decide +kernel
theorem dX0_init_33 : decode cX0_init 33 = .ok (.aload_n 0, 1) := by decide +kernel
theorem dX0_init_34 : decode cX0_init 34 = .ok (.bipush 48, 2) := by decide +kernel
theorem dX0_init_36 : decode cX0_init 36 = .ok (.newarray .int, 2) := by decide +kernel
theorem dX0_init_38 : decode cX0_init 38 = .ok (.putfield 26, 3) := by decide +kernel
theorem dX0_init_41 : decode cX0_init 41 = .ok (.aload_n 0, 1) := by decide +kernel
theorem dX0_init_42 : decode cX0_init 42 = .ok (.bipush 48, 2) := by decide +kernel
theorem dX0_init_44 : decode cX0_init 44 = .ok (.newarray .int, 2) := by decide +kernel
theorem dX0_init_46 : decode cX0_init 46 = .ok (.putfield 29, 3) := by decide +kernel
theorem dX0_init_49 : decode cX0_init 49 = .ok (.return_, 1) := by decide +kernel
theorem dX0_clear_0 : decode cX0_clear 0 = .ok (.aload_n 0, 1) := by decide +kernel
theorem dX0_clear_1 : decode cX0_clear 1 = .ok (.iconst 0, 1) := by decide +kernel
theorem dX0_clear_2 : decode cX0_clear 2 = .ok (.putfield 9, 3) := by decide +kernel
theorem dX0_clear_5 : decode cX0_clear 5 = .ok (.iconst 0, 1) := by decide +kernel
theorem dX0_clear_6 : decode cX0_clear 6 = .ok (.istore_n 1, 1) := by decide +kernel
theorem dX0_clear_7 : decode cX0_clear 7 = .ok (.iload_n 1, 1) := by decide +kernel
theorem dX0_clear_8 : decode cX0_clear 8 = .ok (.bipush 48, 2) := by decide +kernel
theorem dX0_clear_10 : decode cX0_clear 10 = .ok (.if_icmp .ge 16, 3) := by decide +kernel
theorem dX0_clear_13 : decode cX0_clear 13 = .ok (.aload_n 0, 1) := by decide +kernel
theorem dX0_clear_14 : decode cX0_clear 14 = .ok (.getfield 22, 3) := by decide +kernel
theorem dX0_clear_17 : decode cX0_clear 17 = .ok (.iload_n 1, 1) := by decide +kernel
theorem dX0_clear_18 : decode cX0_clear 18 = .ok (.iconst 0, 1) := by decide +kernel
theorem dX0_clear_19 : decode cX0_clear 19 = .ok (.bastore, 1) := by decide +kernel
theorem dX0_clear_20 : decode cX0_clear 20 = .ok (.iinc 1 1, 3) := by decide +kernel
theorem dX0_clear_23 : decode cX0_clear 23 = .ok (.goto (-16), 3) := by decide +kernel
theorem dX0_clear_26 : decode cX0_clear 26 = .ok (.return_, 1) := by decide +kernel
theorem dX0_has_0 : decode cX0_has 0 = .ok (.iload_n 1, 1) := by decide +kernel
theorem dX0_has_1 : decode cX0_has 1 = .ok (.iconst 0, 1) := by decide +kernel
theorem dX0_has_2 : decode cX0_has 2 = .ok (.aload_n 0, 1) := by decide +kernel
theorem dX0_has_3 : decode cX0_has 3 = .ok (.getfield 9, 3) := by decide +kernel
theorem dX0_has_6 : decode cX0_has 6 = .ok (.iconst 1, 1) := by decide +kernel
theorem dX0_has_7 : decode cX0_has 7 = .ok (.isub, 1) := by decide +kernel
theorem dX0_has_8 : decode cX0_has 8 = .ok (.invokestatic 32, 3) := by decide +kernel
theorem dX0_has_11 : decode cX0_has 11 = .ok (.ireturn, 1) := by decide +kernel
theorem dX0_isTaken_0 : decode cX0_isTaken 0 = .ok (.iconst 0, 1) := by decide +kernel
theorem dX0_isTaken_1 : decode cX0_isTaken 1 = .ok (.istore_n 2, 1) := by decide +kernel
theorem dX0_isTaken_2 : decode cX0_isTaken 2 = .ok (.iload_n 2, 1) := by decide +kernel
theorem dX0_isTaken_3 : decode cX0_isTaken 3 = .ok (.aload_n 0, 1) := by decide +kernel
theorem dX0_isTaken_4 : decode cX0_isTaken 4 = .ok (.getfield 9, 3) := by decide +kernel
theorem dX0_isTaken_7 : decode cX0_isTaken 7 = .ok (.if_icmp .ge 21, 3) := by decide +kernel
theorem dX0_isTaken_10 : decode cX0_isTaken 10 = .ok (.aload_n 0, 1) := by decide +kernel
theorem dX0_isTaken_11 : decode cX0_isTaken 11 = .ok (.getfield 15, 3) := by decide +kernel
theorem dX0_isTaken_14 : decode cX0_isTaken 14 = .ok (.iload_n 2, 1) := by decide +kernel
theorem dX0_isTaken_15 : decode cX0_isTaken 15 = .ok (.iaload, 1) := by decide +kernel
theorem dX0_isTaken_16 : decode cX0_isTaken 16 = .ok (.iload_n 1, 1) := by decide +kernel
theorem dX0_isTaken_17 : decode cX0_isTaken 17 = .ok (.if_icmp .ne 5, 3) := by decide +kernel
theorem dX0_isTaken_20 : decode cX0_isTaken 20 = .ok (.iconst 1, 1) := by decide +kernel
theorem dX0_isTaken_21 : decode cX0_isTaken 21 = .ok (.ireturn, 1) := by decide +kernel
theorem dX0_isTaken_22 : decode cX0_isTaken 22 = .ok (.iinc 2 1, 3) := by decide +kernel
theorem dX0_isTaken_25 : decode cX0_isTaken 25 = .ok (.goto (-23), 3) := by decide +kernel
theorem dX0_isTaken_28 : decode cX0_isTaken 28 = .ok (.iconst 0, 1) := by decide +kernel
theorem dX0_isTaken_29 : decode cX0_isTaken 29 = .ok (.ireturn, 1) := by decide +kernel
theorem dX0_open_0 : decode cX0_open 0 = .ok (.aload_n 0, 1) := by decide +kernel
theorem dX0_open_1 : decode cX0_open 1 = .ok (.getfield 9, 3) := by decide +kernel
theorem dX0_open_4 : decode cX0_open 4 = .ok (.istore_n 2, 1) := by decide +kernel
theorem dX0_open_5 : decode cX0_open 5 = .ok (.aload_n 0, 1) := by decide +kernel
theorem dX0_open_6 : decode cX0_open 6 = .ok (.getfield 15, 3) := by decide +kernel
theorem dX0_open_9 : decode cX0_open 9 = .ok (.iload_n 2, 1) := by decide +kernel
theorem dX0_open_10 : decode cX0_open 10 = .ok (.iload_n 1, 1) := by decide +kernel
theorem dX0_open_11 : decode cX0_open 11 = .ok (.iastore, 1) := by decide +kernel
theorem dX0_open_12 : decode cX0_open 12 = .ok (.aload_n 0, 1) := by decide +kernel
theorem dX0_open_13 : decode cX0_open 13 = .ok (.getfield 19, 3) := by decide +kernel
theorem dX0_open_16 : decode cX0_open 16 = .ok (.iload_n 2, 1) := by decide +kernel
theorem dX0_open_17 : decode cX0_open 17 = .ok (.bipush 10, 2) := by decide +kernel
theorem dX0_open_19 : decode cX0_open 19 = .ok (.iastore, 1) := by decide +kernel
theorem dX0_open_20 : decode cX0_open 20 = .ok (.aload_n 0, 1) := by decide +kernel
theorem dX0_open_21 : decode cX0_open 21 = .ok (.iload_n 2, 1) := by decide +kernel
theorem dX0_open_22 : decode cX0_open 22 = .ok (.iconst 1, 1) := by decide +kernel
theorem dX0_open_23 : decode cX0_open 23 = .ok (.iadd, 1) := by decide +kernel
theorem dX0_open_24 : decode cX0_open 24 = .ok (.putfield 9, 3) := by decide +kernel
theorem dX0_open_27 : decode cX0_open 27 = .ok (.iload_n 2, 1) := by decide +kernel
theorem dX0_open_28 : decode cX0_open 28 = .ok (.ireturn, 1) := by decide +kernel
theorem dX0_build_0 : decode cX0_build 0 = .ok (.aload_n 0, 1) := by decide +kernel
theorem dX0_build_1 : decode cX0_build 1 = .ok (.getfield 22, 3) := by decide +kernel
theorem dX0_build_4 : decode cX0_build 4 = .ok (.iload_n 1, 1) := by decide +kernel
theorem dX0_build_5 : decode cX0_build 5 = .ok (.iconst 1, 1) := by decide +kernel
theorem dX0_build_6 : decode cX0_build 6 = .ok (.bastore, 1) := by decide +kernel
theorem dX0_build_7 : decode cX0_build 7 = .ok (.aload_n 0, 1) := by decide +kernel
theorem dX0_build_8 : decode cX0_build 8 = .ok (.getfield 26, 3) := by decide +kernel
theorem dX0_build_11 : decode cX0_build 11 = .ok (.iload_n 1, 1) := by decide +kernel
theorem dX0_build_12 : decode cX0_build 12 = .ok (.iload_n 2, 1) := by decide +kernel
theorem dX0_build_13 : decode cX0_build 13 = .ok (.iastore, 1) := by decide +kernel
theorem dX0_build_14 : decode cX0_build 14 = .ok (.aload_n 0, 1) := by decide +kernel
theorem dX0_build_15 : decode cX0_build 15 = .ok (.getfield 29, 3) := by decide +kernel
theorem dX0_build_18 : decode cX0_build 18 = .ok (.iload_n 1, 1) := by decide +kernel
theorem dX0_build_19 : decode cX0_build 19 = .ok (.iload_n 3, 1) := by decide +kernel
theorem dX0_build_20 : decode cX0_build 20 = .ok (.iastore, 1) := by decide +kernel
theorem dX0_build_21 : decode cX0_build 21 = .ok (.return_, 1) := by decide +kernel
theorem dX1_init_0 : decode cX1_init 0 = .ok (.aload_n 0, 1) := by decide +kernel
theorem dX1_init_1 : decode cX1_init 1 = .ok (.invokespecial 3, 3) := by decide +kernel
theorem dX1_init_4 : decode cX1_init 4 = .ok (.aload_n 0, 1) := by decide +kernel
theorem dX1_init_5 : decode cX1_init 5 = .ok (.iconst 0, 1) := by decide +kernel
theorem dX1_init_6 : decode cX1_init 6 = .ok (.putfield 9, 3) := by decide +kernel
theorem dX1_init_9 : decode cX1_init 9 = .ok (.aload_n 0, 1) := by decide +kernel
theorem dX1_init_10 : decode cX1_init 10 = .ok (.iconst 0, 1) := by decide +kernel
theorem dX1_init_11 : decode cX1_init 11 = .ok (.putfield 15, 3) := by decide +kernel
theorem dX1_init_14 : decode cX1_init 14 = .ok (.aload_n 0, 1) := by decide +kernel
theorem dX1_init_15 : decode cX1_init 15 = .ok (.iconst 1, 1) := by decide +kernel
theorem dX1_init_16 : decode cX1_init 16 = .ok (.putfield 18, 3) := by decide +kernel
theorem dX1_init_19 : decode cX1_init 19 = .ok (.aload_n 0, 1) := by decide +kernel
theorem dX1_init_20 : decode cX1_init 20 = .ok (.new 21, 3) := by decide +kernel
theorem dX1_init_23 : decode cX1_init 23 = .ok (.dup, 1) := by decide +kernel
theorem dX1_init_24 : decode cX1_init 24 = .ok (.invokespecial 23, 3) := by decide +kernel
theorem dX1_init_27 : decode cX1_init 27 = .ok (.putfield 24, 3) := by decide +kernel
theorem dX1_init_30 : decode cX1_init 30 = .ok (.aload_n 0, 1) := by decide +kernel
theorem dX1_init_31 : decode cX1_init 31 = .ok (.new 28, 3) := by decide +kernel
theorem dX1_init_34 : decode cX1_init 34 = .ok (.dup, 1) := by decide +kernel
theorem dX1_init_35 : decode cX1_init 35 = .ok (.invokespecial 30, 3) := by decide +kernel
theorem dX1_init_38 : decode cX1_init 38 = .ok (.putfield 31, 3) := by decide +kernel
theorem dX1_init_41 : decode cX1_init 41 = .ok (.aload_n 0, 1) := by decide +kernel
theorem dX1_init_42 : decode cX1_init 42 = .ok (.sipush 200, 3) := by decide +kernel
theorem dX1_init_45 : decode cX1_init 45 = .ok (.newarray .int, 2) := by decide +kernel
theorem dX1_init_47 : decode cX1_init 47 = .ok (.putfield 35, 3) := by decide +kernel
theorem dX1_init_50 : decode cX1_init 50 = .ok (.aload_n 0, 1) := by decide +kernel
theorem dX1_init_51 : decode cX1_init 51 = .ok (.bipush 20, 2) := by decide +kernel
theorem dX1_init_53 : decode cX1_init 53 = .ok (.newarray .int, 2) := by decide +kernel
theorem dX1_init_55 : decode cX1_init 55 = .ok (.putfield 39, 3) := by decide +kernel
theorem dX1_init_58 : decode cX1_init 58 = .ok (.return_, 1) := by decide +kernel
theorem dX1_renew_0 : decode cX1_renew 0 = .ok (.aload_n 0, 1) := by decide +kernel
theorem dX1_renew_1 : decode cX1_renew 1 = .ok (.iconst 0, 1) := by decide +kernel
theorem dX1_renew_2 : decode cX1_renew 2 = .ok (.putfield 9, 3) := by decide +kernel
theorem dX1_renew_5 : decode cX1_renew 5 = .ok (.aload_n 0, 1) := by decide +kernel
theorem dX1_renew_6 : decode cX1_renew 6 = .ok (.iconst 0, 1) := by decide +kernel
theorem dX1_renew_7 : decode cX1_renew 7 = .ok (.putfield 15, 3) := by decide +kernel
theorem dX1_renew_10 : decode cX1_renew 10 = .ok (.aload_n 0, 1) := by decide +kernel
theorem dX1_renew_11 : decode cX1_renew 11 = .ok (.iconst 1, 1) := by decide +kernel
theorem dX1_renew_12 : decode cX1_renew 12 = .ok (.putfield 18, 3) := by decide +kernel
theorem dX1_renew_15 : decode cX1_renew 15 = .ok (.aload_n 0, 1) := by decide +kernel
theorem dX1_renew_16 : decode cX1_renew 16 = .ok (.getfield 35, 3) := by decide +kernel
theorem dX1_renew_19 : decode cX1_renew 19 = .ok (.iconst 0, 1) := by decide +kernel
theorem dX1_renew_20 : decode cX1_renew 20 = .ok (.iconst 0, 1) := by decide +kernel
theorem dX1_renew_21 : decode cX1_renew 21 = .ok (.iastore, 1) := by decide +kernel
theorem dX1_renew_22 : decode cX1_renew 22 = .ok (.aload_n 0, 1) := by decide +kernel
theorem dX1_renew_23 : decode cX1_renew 23 = .ok (.getfield 24, 3) := by decide +kernel
theorem dX1_renew_26 : decode cX1_renew 26 = .ok (.iload_n 1, 1) := by decide +kernel
theorem dX1_renew_27 : decode cX1_renew 27 = .ok (.invokevirtual 42, 3) := by decide +kernel
theorem dX1_renew_30 : decode cX1_renew 30 = .ok (.aload_n 0, 1) := by decide +kernel
theorem dX1_renew_31 : decode cX1_renew 31 = .ok (.getfield 31, 3) := by decide +kernel
theorem dX1_renew_34 : decode cX1_renew 34 = .ok (.invokevirtual 46, 3) := by decide +kernel
theorem dX1_renew_37 : decode cX1_renew 37 = .ok (.return_, 1) := by decide +kernel
theorem dX1_copyFrom_0 : decode cX1_copyFrom 0 = .ok (.aload_n 0, 1) := by decide +kernel
theorem dX1_copyFrom_1 : decode cX1_copyFrom 1 = .ok (.aload_n 1, 1) := by decide +kernel
theorem dX1_copyFrom_2 : decode cX1_copyFrom 2 = .ok (.getfield 9, 3) := by decide +kernel
theorem dX1_copyFrom_5 : decode cX1_copyFrom 5 = .ok (.putfield 9, 3) := by decide +kernel
theorem dX1_copyFrom_8 : decode cX1_copyFrom 8 = .ok (.aload_n 0, 1) := by decide +kernel
theorem dX1_copyFrom_9 : decode cX1_copyFrom 9 = .ok (.aload_n 1, 1) := by decide +kernel
theorem dX1_copyFrom_10 : decode cX1_copyFrom 10 = .ok (.getfield 15, 3) := by decide +kernel
theorem dX1_copyFrom_13 : decode cX1_copyFrom 13 = .ok (.putfield 15, 3) := by decide +kernel
theorem dX1_copyFrom_16 : decode cX1_copyFrom 16 = .ok (.aload_n 0, 1) := by decide +kernel
theorem dX1_copyFrom_17 : decode cX1_copyFrom 17 = .ok (.aload_n 1, 1) := by decide +kernel
theorem dX1_copyFrom_18 : decode cX1_copyFrom 18 = .ok (.getfield 18, 3) := by decide +kernel
theorem dX1_copyFrom_21 : decode cX1_copyFrom 21 = .ok (.putfield 18, 3) := by decide +kernel
theorem dX1_copyFrom_24 : decode cX1_copyFrom 24 = .ok (.aload_n 0, 1) := by decide +kernel
theorem dX1_copyFrom_25 : decode cX1_copyFrom 25 = .ok (.getfield 24, 3) := by decide +kernel
theorem dX1_copyFrom_28 : decode cX1_copyFrom 28 = .ok (.aload_n 1, 1) := by decide +kernel
theorem dX1_copyFrom_29 : decode cX1_copyFrom 29 = .ok (.getfield 24, 3) := by decide +kernel
theorem dX1_copyFrom_32 : decode cX1_copyFrom 32 = .ok (.invokevirtual 49, 3) := by decide +kernel
theorem dX1_copyFrom_35 : decode cX1_copyFrom 35 = .ok (.aload_n 0, 1) := by decide +kernel
theorem dX1_copyFrom_36 : decode cX1_copyFrom 36 = .ok (.getfield 31, 3) := by decide +kernel
theorem dX1_copyFrom_39 : decode cX1_copyFrom 39 = .ok (.aload_n 1, 1) := by decide +kernel
theorem dX1_copyFrom_40 : decode cX1_copyFrom 40 = .ok (.getfield 31, 3) := by decide +kernel
theorem dX1_copyFrom_43 : decode cX1_copyFrom 43 = .ok (.invokevirtual 53, 3) := by decide +kernel
theorem dX1_copyFrom_46 : decode cX1_copyFrom 46 = .ok (.aload_n 1, 1) := by decide +kernel
theorem dX1_copyFrom_47 : decode cX1_copyFrom 47 = .ok (.getfield 35, 3) := by decide +kernel
theorem dX1_copyFrom_50 : decode cX1_copyFrom 50 = .ok (.iconst 0, 1) := by decide +kernel
theorem dX1_copyFrom_51 : decode cX1_copyFrom 51 = .ok (.aload_n 0, 1) := by decide +kernel
theorem dX1_copyFrom_52 : decode cX1_copyFrom 52 = .ok (.getfield 35, 3) := by decide +kernel
theorem dX1_copyFrom_55 : decode cX1_copyFrom 55 = .ok (.iconst 0, 1) := by decide +kernel
theorem dX1_copyFrom_56 : decode cX1_copyFrom 56 = .ok (.aload_n 0, 1) := by decide +kernel
theorem dX1_copyFrom_57 : decode cX1_copyFrom 57 = .ok (.getfield 18, 3) := by decide +kernel
theorem dX1_copyFrom_60 : decode cX1_copyFrom 60 = .ok (.invokestatic 56, 3) := by decide +kernel
theorem dX1_copyFrom_63 : decode cX1_copyFrom 63 = .ok (.aload_n 1, 1) := by decide +kernel
theorem dX1_copyFrom_64 : decode cX1_copyFrom 64 = .ok (.getfield 39, 3) := by decide +kernel
theorem dX1_copyFrom_67 : decode cX1_copyFrom 67 = .ok (.iconst 0, 1) := by decide +kernel
theorem dX1_copyFrom_68 : decode cX1_copyFrom 68 = .ok (.aload_n 0, 1) := by decide +kernel
theorem dX1_copyFrom_69 : decode cX1_copyFrom 69 = .ok (.getfield 39, 3) := by decide +kernel
theorem dX1_copyFrom_72 : decode cX1_copyFrom 72 = .ok (.iconst 0, 1) := by decide +kernel
theorem dX1_copyFrom_73 : decode cX1_copyFrom 73 = .ok (.bipush 20, 2) := by decide +kernel
theorem dX1_copyFrom_75 : decode cX1_copyFrom 75 = .ok (.invokestatic 56, 3) := by decide +kernel
theorem dX1_copyFrom_78 : decode cX1_copyFrom 78 = .ok (.return_, 1) := by decide +kernel
theorem dX1_flow_0 : decode cX1_flow 0 = .ok (.aload_n 0, 1) := by decide +kernel
theorem dX1_flow_1 : decode cX1_flow 1 = .ok (.getfield 35, 3) := by decide +kernel
theorem dX1_flow_4 : decode cX1_flow 4 = .ok (.aload_n 0, 1) := by decide +kernel
theorem dX1_flow_5 : decode cX1_flow 5 = .ok (.getfield 18, 3) := by decide +kernel
theorem dX1_flow_8 : decode cX1_flow 8 = .ok (.iconst 0, 1) := by decide +kernel
theorem dX1_flow_9 : decode cX1_flow 9 = .ok (.iastore, 1) := by decide +kernel
theorem dX1_flow_10 : decode cX1_flow 10 = .ok (.iconst 0, 1) := by decide +kernel
theorem dX1_flow_11 : decode cX1_flow 11 = .ok (.istore 5, 2) := by decide +kernel
theorem dX1_flow_13 : decode cX1_flow 13 = .ok (.iload 5, 2) := by decide +kernel
theorem dX1_flow_15 : decode cX1_flow 15 = .ok (.iload_n 2, 1) := by decide +kernel
theorem dX1_flow_16 : decode cX1_flow 16 = .ok (.if_icmp .ge 27, 3) := by decide +kernel
theorem dX1_flow_19 : decode cX1_flow 19 = .ok (.aload_n 0, 1) := by decide +kernel
theorem dX1_flow_20 : decode cX1_flow 20 = .ok (.aload_n 1, 1) := by decide +kernel
theorem dX1_flow_21 : decode cX1_flow 21 = .ok (.aload_n 3, 1) := by decide +kernel
theorem dX1_flow_22 : decode cX1_flow 22 = .ok (.aload 4, 2) := by decide +kernel
theorem dX1_flow_24 : decode cX1_flow 24 = .ok (.invokevirtual 62, 3) := by decide +kernel
theorem dX1_flow_27 : decode cX1_flow 27 = .ok (.istore 6, 2) := by decide +kernel
theorem dX1_flow_29 : decode cX1_flow 29 = .ok (.iload 6, 2) := by decide +kernel
theorem dX1_flow_31 : decode cX1_flow 31 = .ok (.ifCond .eq 6, 3) := by decide +kernel
theorem dX1_flow_34 : decode cX1_flow 34 = .ok (.iload 6, 2) := by decide +kernel
theorem dX1_flow_36 : decode cX1_flow 36 = .ok (.ireturn, 1) := by decide +kernel
theorem dX1_flow_37 : decode cX1_flow 37 = .ok (.iinc 5 1, 3) := by decide +kernel
theorem dX1_flow_40 : decode cX1_flow 40 = .ok (.goto (-27), 3) := by decide +kernel
theorem dX1_flow_43 : decode cX1_flow 43 = .ok (.iconst 0, 1) := by decide +kernel
theorem dX1_flow_44 : decode cX1_flow 44 = .ok (.ireturn, 1) := by decide +kernel
theorem dX1_step_0 : decode cX1_step 0 = .ok (.aload_n 1, 1) := by decide +kernel
theorem dX1_step_1 : decode cX1_step 1 = .ok (.getfield 66, 3) := by decide +kernel
theorem dX1_step_4 : decode cX1_step 4 = .ok (.istore 4, 2) := by decide +kernel
theorem dX1_step_6 : decode cX1_step 6 = .ok (.aload_n 2, 1) := by decide +kernel
theorem dX1_step_7 : decode cX1_step 7 = .ok (.getfield 71, 3) := by decide +kernel
theorem dX1_step_10 : decode cX1_step 10 = .ok (.iload 4, 2) := by decide +kernel
theorem dX1_step_12 : decode cX1_step 12 = .ok (.baload, 1) := by decide +kernel
theorem dX1_step_13 : decode cX1_step 13 = .ok (.ifCond .eq 25, 3) := by decide +kernel
theorem dX1_step_16 : decode cX1_step 16 = .ok (.aload_n 0, 1) := by decide +kernel
theorem dX1_step_17 : decode cX1_step 17 = .ok (.getfield 31, 3) := by decide +kernel
theorem dX1_step_20 : decode cX1_step 20 = .ok (.getfield 77, 3) := by decide +kernel
theorem dX1_step_23 : decode cX1_step 23 = .ok (.iload 4, 2) := by decide +kernel
theorem dX1_step_25 : decode cX1_step 25 = .ok (.iaload, 1) := by decide +kernel
theorem dX1_step_26 : decode cX1_step 26 = .ok (.iconst 1, 1) := by decide +kernel
theorem dX1_step_27 : decode cX1_step 27 = .ok (.isub, 1) := by decide +kernel
theorem dX1_step_28 : decode cX1_step 28 = .ok (.aload_n 2, 1) := by decide +kernel
theorem dX1_step_29 : decode cX1_step 29 = .ok (.getfield 80, 3) := by decide +kernel
theorem dX1_step_32 : decode cX1_step 32 = .ok (.iload 4, 2) := by decide +kernel
theorem dX1_step_34 : decode cX1_step 34 = .ok (.iaload, 1) := by decide +kernel
theorem dX1_step_35 : decode cX1_step 35 = .ok (.if_icmp .ge 5, 3) := by decide +kernel
theorem dX1_step_38 : decode cX1_step 38 = .ok (.iconst 1, 1) := by decide +kernel
theorem dX1_step_39 : decode cX1_step 39 = .ok (.ireturn, 1) := by decide +kernel
theorem dX1_step_40 : decode cX1_step 40 = .ok (.aload_n 1, 1) := by decide +kernel
theorem dX1_step_41 : decode cX1_step 41 = .ok (.getfield 83, 3) := by decide +kernel
theorem dX1_step_44 : decode cX1_step 44 = .ok (.iconst 1, 1) := by decide +kernel
theorem dX1_step_45 : decode cX1_step 45 = .ok (.isub, 1) := by decide +kernel
theorem dX1_step_46 : decode cX1_step 46 = .ok (.istore 5, 2) := by decide +kernel
theorem dX1_step_48 : decode cX1_step 48 = .ok (.aload_n 0, 1) := by decide +kernel
theorem dX1_step_49 : decode cX1_step 49 = .ok (.iload 5, 2) := by decide +kernel
theorem dX1_step_51 : decode cX1_step 51 = .ok (.aload_n 1, 1) := by decide +kernel
theorem dX1_step_52 : decode cX1_step 52 = .ok (.getfield 86, 3) := by decide +kernel
theorem dX1_step_55 : decode cX1_step 55 = .ok (.aload_n 2, 1) := by decide +kernel
theorem dX1_step_56 : decode cX1_step 56 = .ok (.aload_n 3, 1) := by decide +kernel
theorem dX1_step_57 : decode cX1_step 57 = .ok (.invokevirtual 89, 3) := by decide +kernel
theorem dX1_step_60 : decode cX1_step 60 = .ok (.istore 6, 2) := by decide +kernel
theorem dX1_step_62 : decode cX1_step 62 = .ok (.iload 6, 2) := by decide +kernel
theorem dX1_step_64 : decode cX1_step 64 = .ok (.iconst (-1), 1) := by decide +kernel
theorem dX1_step_65 : decode cX1_step 65 = .ok (.if_icmp .eq 27, 3) := by decide +kernel
theorem dX1_step_68 : decode cX1_step 68 = .ok (.aload_n 0, 1) := by decide +kernel
theorem dX1_step_69 : decode cX1_step 69 = .ok (.getfield 31, 3) := by decide +kernel
theorem dX1_step_72 : decode cX1_step 72 = .ok (.getfield 77, 3) := by decide +kernel
theorem dX1_step_75 : decode cX1_step 75 = .ok (.iload 6, 2) := by decide +kernel
theorem dX1_step_77 : decode cX1_step 77 = .ok (.iaload, 1) := by decide +kernel
theorem dX1_step_78 : decode cX1_step 78 = .ok (.iconst 1, 1) := by decide +kernel
theorem dX1_step_79 : decode cX1_step 79 = .ok (.iadd, 1) := by decide +kernel
theorem dX1_step_80 : decode cX1_step 80 = .ok (.aload_n 2, 1) := by decide +kernel
theorem dX1_step_81 : decode cX1_step 81 = .ok (.getfield 93, 3) := by decide +kernel
theorem dX1_step_84 : decode cX1_step 84 = .ok (.iload 6, 2) := by decide +kernel
theorem dX1_step_86 : decode cX1_step 86 = .ok (.iaload, 1) := by decide +kernel
theorem dX1_step_87 : decode cX1_step 87 = .ok (.if_icmp .le 5, 3) := by decide +kernel
theorem dX1_step_90 : decode cX1_step 90 = .ok (.iconst 2, 1) := by decide +kernel
theorem dX1_step_91 : decode cX1_step 91 = .ok (.ireturn, 1) := by decide +kernel
theorem dX1_step_92 : decode cX1_step 92 = .ok (.aload_n 0, 1) := by decide +kernel
theorem dX1_step_93 : decode cX1_step 93 = .ok (.iload 5, 2) := by decide +kernel
theorem dX1_step_95 : decode cX1_step 95 = .ok (.iload 6, 2) := by decide +kernel
theorem dX1_step_97 : decode cX1_step 97 = .ok (.aload_n 1, 1) := by decide +kernel
theorem dX1_step_98 : decode cX1_step 98 = .ok (.getfield 86, 3) := by decide +kernel
theorem dX1_step_101 : decode cX1_step 101 = .ok (.invokevirtual 96, 3) := by decide +kernel
theorem dX1_step_104 : decode cX1_step 104 = .ok (.aload_n 0, 1) := by decide +kernel
theorem dX1_step_105 : decode cX1_step 105 = .ok (.getfield 24, 3) := by decide +kernel
theorem dX1_step_108 : decode cX1_step 108 = .ok (.aload_n 1, 1) := by decide +kernel
theorem dX1_step_109 : decode cX1_step 109 = .ok (.getfield 100, 3) := by decide +kernel
theorem dX1_step_112 : decode cX1_step 112 = .ok (.iload 5, 2) := by decide +kernel
theorem dX1_step_114 : decode cX1_step 114 = .ok (.invokevirtual 103, 3) := by decide +kernel
theorem dX1_step_117 : decode cX1_step 117 = .ok (.aload_n 0, 1) := by decide +kernel
theorem dX1_step_118 : decode cX1_step 118 = .ok (.getfield 24, 3) := by decide +kernel
theorem dX1_step_121 : decode cX1_step 121 = .ok (.aload_n 1, 1) := by decide +kernel
theorem dX1_step_122 : decode cX1_step 122 = .ok (.getfield 100, 3) := by decide +kernel
theorem dX1_step_125 : decode cX1_step 125 = .ok (.aload_n 0, 1) := by decide +kernel
theorem dX1_step_126 : decode cX1_step 126 = .ok (.getfield 18, 3) := by decide +kernel
theorem dX1_step_129 : decode cX1_step 129 = .ok (.aload_n 1, 1) := by decide +kernel
theorem dX1_step_130 : decode cX1_step 130 = .ok (.getfield 107, 3) := by decide +kernel
theorem dX1_step_133 : decode cX1_step 133 = .ok (.invokevirtual 110, 3) := by decide +kernel
theorem dX1_step_136 : decode cX1_step 136 = .ok (.aload_n 0, 1) := by decide +kernel
theorem dX1_step_137 : decode cX1_step 137 = .ok (.getfield 31, 3) := by decide +kernel
theorem dX1_step_140 : decode cX1_step 140 = .ok (.iload 4, 2) := by decide +kernel
theorem dX1_step_142 : decode cX1_step 142 = .ok (.invokevirtual 113, 3) := by decide +kernel
theorem dX1_step_145 : decode cX1_step 145 = .ok (.aload_n 0, 1) := by decide +kernel
theorem dX1_step_146 : decode cX1_step 146 = .ok (.getfield 24, 3) := by decide +kernel
theorem dX1_step_149 : decode cX1_step 149 = .ok (.aload_n 1, 1) := by decide +kernel
theorem dX1_step_150 : decode cX1_step 150 = .ok (.getfield 100, 3) := by decide +kernel
theorem dX1_step_153 : decode cX1_step 153 = .ok (.aload_n 1, 1) := by decide +kernel
theorem dX1_step_154 : decode cX1_step 154 = .ok (.getfield 83, 3) := by decide +kernel
theorem dX1_step_157 : decode cX1_step 157 = .ok (.aload_n 3, 1) := by decide +kernel
theorem dX1_step_158 : decode cX1_step 158 = .ok (.invokevirtual 116, 3) := by decide +kernel
theorem dX1_step_161 : decode cX1_step 161 = .ok (.aload_n 0, 1) := by decide +kernel
theorem dX1_step_162 : decode cX1_step 162 = .ok (.getfield 24, 3) := by decide +kernel
theorem dX1_step_165 : decode cX1_step 165 = .ok (.aload_n 1, 1) := by decide +kernel
theorem dX1_step_166 : decode cX1_step 166 = .ok (.getfield 100, 3) := by decide +kernel
theorem dX1_step_169 : decode cX1_step 169 = .ok (.aload_n 3, 1) := by decide +kernel
theorem dX1_step_170 : decode cX1_step 170 = .ok (.invokevirtual 120, 3) := by decide +kernel
theorem dX1_step_173 : decode cX1_step 173 = .ok (.ifCond .ne 16, 3) := by decide +kernel
theorem dX1_step_176 : decode cX1_step 176 = .ok (.aload_n 0, 1) := by decide +kernel
theorem dX1_step_177 : decode cX1_step 177 = .ok (.getfield 24, 3) := by decide +kernel
theorem dX1_step_180 : decode cX1_step 180 = .ok (.iload 5, 2) := by decide +kernel
theorem dX1_step_182 : decode cX1_step 182 = .ok (.aload_n 3, 1) := by decide +kernel
theorem dX1_step_183 : decode cX1_step 183 = .ok (.invokevirtual 120, 3) := by decide +kernel
theorem dX1_step_186 : decode cX1_step 186 = .ok (.ifCond .eq 7, 3) := by decide +kernel
theorem dX1_step_189 : decode cX1_step 189 = .ok (.iconst 1, 1) := by decide +kernel
theorem dX1_step_190 : decode cX1_step 190 = .ok (.goto 4, 3) := by decide +kernel
theorem dX1_step_193 : decode cX1_step 193 = .ok (.iconst 0, 1) := by decide +kernel
theorem dX1_step_194 : decode cX1_step 194 = .ok (.istore 7, 2) := by decide +kernel
theorem dX1_step_196 : decode cX1_step 196 = .ok (.iload 7, 2) := by decide +kernel
theorem dX1_step_198 : decode cX1_step 198 = .ok (.ifCond .eq 7, 3) := by decide +kernel
theorem dX1_step_201 : decode cX1_step 201 = .ok (.iconst 3, 1) := by decide +kernel
theorem dX1_step_202 : decode cX1_step 202 = .ok (.goto 4, 3) := by decide +kernel
theorem dX1_step_205 : decode cX1_step 205 = .ok (.iconst 0, 1) := by decide +kernel
theorem dX1_step_206 : decode cX1_step 206 = .ok (.ireturn, 1) := by decide +kernel
theorem dX1_letOut_0 : decode cX1_letOut 0 = .ok (.aload_n 0, 1) := by decide +kernel
theorem dX1_letOut_1 : decode cX1_letOut 1 = .ok (.getfield 35, 3) := by decide +kernel
theorem dX1_letOut_4 : decode cX1_letOut 4 = .ok (.aload_n 0, 1) := by decide +kernel
theorem dX1_letOut_5 : decode cX1_letOut 5 = .ok (.getfield 24, 3) := by decide +kernel
theorem dX1_letOut_8 : decode cX1_letOut 8 = .ok (.getfield 124, 3) := by decide +kernel
theorem dX1_letOut_11 : decode cX1_letOut 11 = .ok (.iload_n 1, 1) := by decide +kernel
theorem dX1_letOut_12 : decode cX1_letOut 12 = .ok (.iaload, 1) := by decide +kernel
theorem dX1_letOut_13 : decode cX1_letOut 13 = .ok (.dup2, 1) := by decide +kernel
theorem dX1_letOut_14 : decode cX1_letOut 14 = .ok (.iaload, 1) := by decide +kernel
theorem dX1_letOut_15 : decode cX1_letOut 15 = .ok (.iconst 1, 1) := by decide +kernel
theorem dX1_letOut_16 : decode cX1_letOut 16 = .ok (.iadd, 1) := by decide +kernel
theorem dX1_letOut_17 : decode cX1_letOut 17 = .ok (.iastore, 1) := by decide +kernel
theorem dX1_letOut_18 : decode cX1_letOut 18 = .ok (.iload_n 2, 1) := by decide +kernel
theorem dX1_letOut_19 : decode cX1_letOut 19 = .ok (.iconst (-1), 1) := by decide +kernel
theorem dX1_letOut_20 : decode cX1_letOut 20 = .ok (.if_icmp .ne 19, 3) := by decide +kernel
theorem dX1_letOut_23 : decode cX1_letOut 23 = .ok (.aload_n 0, 1) := by decide +kernel
theorem dX1_letOut_24 : decode cX1_letOut 24 = .ok (.getfield 31, 3) := by decide +kernel
theorem dX1_letOut_27 : decode cX1_letOut 27 = .ok (.getfield 127, 3) := by decide +kernel
theorem dX1_letOut_30 : decode cX1_letOut 30 = .ok (.iload_n 3, 1) := by decide +kernel
theorem dX1_letOut_31 : decode cX1_letOut 31 = .ok (.dup2, 1) := by decide +kernel
theorem dX1_letOut_32 : decode cX1_letOut 32 = .ok (.iaload, 1) := by decide +kernel
theorem dX1_letOut_33 : decode cX1_letOut 33 = .ok (.iconst 1, 1) := by decide +kernel
theorem dX1_letOut_34 : decode cX1_letOut 34 = .ok (.iadd, 1) := by decide +kernel
theorem dX1_letOut_35 : decode cX1_letOut 35 = .ok (.iastore, 1) := by decide +kernel
theorem dX1_letOut_36 : decode cX1_letOut 36 = .ok (.goto 27, 3) := by decide +kernel
theorem dX1_letOut_39 : decode cX1_letOut 39 = .ok (.aload_n 0, 1) := by decide +kernel
theorem dX1_letOut_40 : decode cX1_letOut 40 = .ok (.getfield 31, 3) := by decide +kernel
theorem dX1_letOut_43 : decode cX1_letOut 43 = .ok (.iload_n 2, 1) := by decide +kernel
theorem dX1_letOut_44 : decode cX1_letOut 44 = .ok (.aload_n 0, 1) := by decide +kernel
theorem dX1_letOut_45 : decode cX1_letOut 45 = .ok (.getfield 24, 3) := by decide +kernel
theorem dX1_letOut_48 : decode cX1_letOut 48 = .ok (.iload_n 1, 1) := by decide +kernel
theorem dX1_letOut_49 : decode cX1_letOut 49 = .ok (.invokevirtual 130, 3) := by decide +kernel
theorem dX1_letOut_52 : decode cX1_letOut 52 = .ok (.ifCond .ne 7, 3) := by decide +kernel
theorem dX1_letOut_55 : decode cX1_letOut 55 = .ok (.iconst 1, 1) := by decide +kernel
theorem dX1_letOut_56 : decode cX1_letOut 56 = .ok (.goto 4, 3) := by decide +kernel
theorem dX1_letOut_59 : decode cX1_letOut 59 = .ok (.iconst 0, 1) := by decide +kernel
theorem dX1_letOut_60 : decode cX1_letOut 60 = .ok (.invokevirtual 134, 3) := by decide +kernel
theorem dX1_letOut_63 : decode cX1_letOut 63 = .ok (.return_, 1) := by decide +kernel
theorem dX1_sinkFor_0 : decode cX1_sinkFor 0 = .ok (.iload_n 2, 1) := by decide +kernel
theorem dX1_sinkFor_1 : decode cX1_sinkFor 1 = .ok (.aload_n 0, 1) := by decide +kernel
theorem dX1_sinkFor_2 : decode cX1_sinkFor 2 = .ok (.getfield 24, 3) := by decide +kernel
theorem dX1_sinkFor_5 : decode cX1_sinkFor 5 = .ok (.getfield 138, 3) := by decide +kernel
theorem dX1_sinkFor_8 : decode cX1_sinkFor 8 = .ok (.iload_n 1, 1) := by decide +kernel
theorem dX1_sinkFor_9 : decode cX1_sinkFor 9 = .ok (.iaload, 1) := by decide +kernel
theorem dX1_sinkFor_10 : decode cX1_sinkFor 10 = .ok (.invokestatic 141, 3) := by decide +kernel
theorem dX1_sinkFor_13 : decode cX1_sinkFor 13 = .ok (.istore 5, 2) := by decide +kernel
theorem dX1_sinkFor_15 : decode cX1_sinkFor 15 = .ok (.aload_n 0, 1) := by decide +kernel
theorem dX1_sinkFor_16 : decode cX1_sinkFor 16 = .ok (.getfield 24, 3) := by decide +kernel
theorem dX1_sinkFor_19 : decode cX1_sinkFor 19 = .ok (.iload_n 1, 1) := by decide +kernel
theorem dX1_sinkFor_20 : decode cX1_sinkFor 20 = .ok (.invokevirtual 130, 3) := by decide +kernel
theorem dX1_sinkFor_23 : decode cX1_sinkFor 23 = .ok (.ifCond .eq 20, 3) := by decide +kernel
theorem dX1_sinkFor_26 : decode cX1_sinkFor 26 = .ok (.aload_n 3, 1) := by decide +kernel
theorem dX1_sinkFor_27 : decode cX1_sinkFor 27 = .ok (.getfield 71, 3) := by decide +kernel
theorem dX1_sinkFor_30 : decode cX1_sinkFor 30 = .ok (.iload 5, 2) := by decide +kernel
theorem dX1_sinkFor_32 : decode cX1_sinkFor 32 = .ok (.baload, 1) := by decide +kernel
theorem dX1_sinkFor_33 : decode cX1_sinkFor 33 = .ok (.ifCond .eq 8, 3) := by decide +kernel
theorem dX1_sinkFor_36 : decode cX1_sinkFor 36 = .ok (.iload 5, 2) := by decide +kernel
theorem dX1_sinkFor_38 : decode cX1_sinkFor 38 = .ok (.goto 4, 3) := by decide +kernel
theorem dX1_sinkFor_41 : decode cX1_sinkFor 41 = .ok (.iconst (-1), 1) := by decide +kernel
theorem dX1_sinkFor_42 : decode cX1_sinkFor 42 = .ok (.ireturn, 1) := by decide +kernel
theorem dX1_sinkFor_43 : decode cX1_sinkFor 43 = .ok (.aload_n 3, 1) := by decide +kernel
theorem dX1_sinkFor_44 : decode cX1_sinkFor 44 = .ok (.getfield 71, 3) := by decide +kernel
theorem dX1_sinkFor_47 : decode cX1_sinkFor 47 = .ok (.iload 5, 2) := by decide +kernel
theorem dX1_sinkFor_49 : decode cX1_sinkFor 49 = .ok (.baload, 1) := by decide +kernel
theorem dX1_sinkFor_50 : decode cX1_sinkFor 50 = .ok (.ifCond .eq 33, 3) := by decide +kernel
theorem dX1_sinkFor_53 : decode cX1_sinkFor 53 = .ok (.aload_n 0, 1) := by decide +kernel
theorem dX1_sinkFor_54 : decode cX1_sinkFor 54 = .ok (.getfield 31, 3) := by decide +kernel
theorem dX1_sinkFor_57 : decode cX1_sinkFor 57 = .ok (.iload 5, 2) := by decide +kernel
theorem dX1_sinkFor_59 : decode cX1_sinkFor 59 = .ok (.aload 4, 2) := by decide +kernel
theorem dX1_sinkFor_61 : decode cX1_sinkFor 61 = .ok (.getfield 145, 3) := by decide +kernel
theorem dX1_sinkFor_64 : decode cX1_sinkFor 64 = .ok (.aload_n 0, 1) := by decide +kernel
theorem dX1_sinkFor_65 : decode cX1_sinkFor 65 = .ok (.getfield 24, 3) := by decide +kernel
theorem dX1_sinkFor_68 : decode cX1_sinkFor 68 = .ok (.getfield 138, 3) := by decide +kernel
theorem dX1_sinkFor_71 : decode cX1_sinkFor 71 = .ok (.iload_n 1, 1) := by decide +kernel
theorem dX1_sinkFor_72 : decode cX1_sinkFor 72 = .ok (.iaload, 1) := by decide +kernel
theorem dX1_sinkFor_73 : decode cX1_sinkFor 73 = .ok (.iaload, 1) := by decide +kernel
theorem dX1_sinkFor_74 : decode cX1_sinkFor 74 = .ok (.invokevirtual 150, 3) := by decide +kernel
theorem dX1_sinkFor_77 : decode cX1_sinkFor 77 = .ok (.ifCond .eq 6, 3) := by decide +kernel
theorem dX1_sinkFor_80 : decode cX1_sinkFor 80 = .ok (.iload 5, 2) := by decide +kernel
theorem dX1_sinkFor_82 : decode cX1_sinkFor 82 = .ok (.ireturn, 1) := by decide +kernel
theorem dX1_sinkFor_83 : decode cX1_sinkFor 83 = .ok (.iload_n 2, 1) := by decide +kernel
theorem dX1_sinkFor_84 : decode cX1_sinkFor 84 = .ok (.aload_n 0, 1) := by decide +kernel
theorem dX1_sinkFor_85 : decode cX1_sinkFor 85 = .ok (.getfield 24, 3) := by decide +kernel
theorem dX1_sinkFor_88 : decode cX1_sinkFor 88 = .ok (.getfield 154, 3) := by decide +kernel
theorem dX1_sinkFor_91 : decode cX1_sinkFor 91 = .ok (.iload_n 1, 1) := by decide +kernel
theorem dX1_sinkFor_92 : decode cX1_sinkFor 92 = .ok (.iaload, 1) := by decide +kernel
theorem dX1_sinkFor_93 : decode cX1_sinkFor 93 = .ok (.invokestatic 141, 3) := by decide +kernel
theorem dX1_sinkFor_96 : decode cX1_sinkFor 96 = .ok (.istore 6, 2) := by decide +kernel
theorem dX1_sinkFor_98 : decode cX1_sinkFor 98 = .ok (.aload_n 3, 1) := by decide +kernel
theorem dX1_sinkFor_99 : decode cX1_sinkFor 99 = .ok (.getfield 71, 3) := by decide +kernel
theorem dX1_sinkFor_102 : decode cX1_sinkFor 102 = .ok (.iload 6, 2) := by decide +kernel
theorem dX1_sinkFor_104 : decode cX1_sinkFor 104 = .ok (.baload, 1) := by decide +kernel
theorem dX1_sinkFor_105 : decode cX1_sinkFor 105 = .ok (.ifCond .eq 33, 3) := by decide +kernel
theorem dX1_sinkFor_108 : decode cX1_sinkFor 108 = .ok (.aload_n 0, 1) := by decide +kernel
theorem dX1_sinkFor_109 : decode cX1_sinkFor 109 = .ok (.getfield 31, 3) := by decide +kernel
theorem dX1_sinkFor_112 : decode cX1_sinkFor 112 = .ok (.iload 6, 2) := by decide +kernel
theorem dX1_sinkFor_114 : decode cX1_sinkFor 114 = .ok (.aload 4, 2) := by decide +kernel
theorem dX1_sinkFor_116 : decode cX1_sinkFor 116 = .ok (.getfield 145, 3) := by decide +kernel
theorem dX1_sinkFor_119 : decode cX1_sinkFor 119 = .ok (.aload_n 0, 1) := by decide +kernel
theorem dX1_sinkFor_120 : decode cX1_sinkFor 120 = .ok (.getfield 24, 3) := by decide +kernel
theorem dX1_sinkFor_123 : decode cX1_sinkFor 123 = .ok (.getfield 154, 3) := by decide +kernel
theorem dX1_sinkFor_126 : decode cX1_sinkFor 126 = .ok (.iload_n 1, 1) := by decide +kernel
theorem dX1_sinkFor_127 : decode cX1_sinkFor 127 = .ok (.iaload, 1) := by decide +kernel
theorem dX1_sinkFor_128 : decode cX1_sinkFor 128 = .ok (.iaload, 1) := by decide +kernel
theorem dX1_sinkFor_129 : decode cX1_sinkFor 129 = .ok (.invokevirtual 150, 3) := by decide +kernel
theorem dX1_sinkFor_132 : decode cX1_sinkFor 132 = .ok (.ifCond .eq 6, 3) := by decide +kernel
theorem dX1_sinkFor_135 : decode cX1_sinkFor 135 = .ok (.iload 6, 2) := by decide +kernel
theorem dX1_sinkFor_137 : decode cX1_sinkFor 137 = .ok (.ireturn, 1) := by decide +kernel
theorem dX1_sinkFor_138 : decode cX1_sinkFor 138 = .ok (.iconst (-1), 1) := by decide +kernel
theorem dX1_sinkFor_139 : decode cX1_sinkFor 139 = .ok (.ireturn, 1) := by decide +kernel
theorem dX1_pass_0 : decode cX1_pass 0 = .ok (.iconst 0, 1) := by decide +kernel
theorem dX1_pass_1 : decode cX1_pass 1 = .ok (.istore_n 3, 1) := by decide +kernel
theorem dX1_pass_2 : decode cX1_pass 2 = .ok (.iload_n 3, 1) := by decide +kernel
theorem dX1_pass_3 : decode cX1_pass 3 = .ok (.iload_n 1, 1) := by decide +kernel
theorem dX1_pass_4 : decode cX1_pass 4 = .ok (.if_icmp .ge 36, 3) := by decide +kernel
theorem dX1_pass_7 : decode cX1_pass 7 = .ok (.aload_n 0, 1) := by decide +kernel
theorem dX1_pass_8 : decode cX1_pass 8 = .ok (.dup, 1) := by decide +kernel
theorem dX1_pass_9 : decode cX1_pass 9 = .ok (.getfield 15, 3) := by decide +kernel
theorem dX1_pass_12 : decode cX1_pass 12 = .ok (.aload_n 2, 1) := by decide +kernel
theorem dX1_pass_13 : decode cX1_pass 13 = .ok (.aload_n 0, 1) := by decide +kernel
theorem dX1_pass_14 : decode cX1_pass 14 = .ok (.getfield 9, 3) := by decide +kernel
theorem dX1_pass_17 : decode cX1_pass 17 = .ok (.invokevirtual 157, 3) := by decide +kernel
theorem dX1_pass_20 : decode cX1_pass 20 = .ok (.iadd, 1) := by decide +kernel
theorem dX1_pass_21 : decode cX1_pass 21 = .ok (.putfield 15, 3) := by decide +kernel
theorem dX1_pass_24 : decode cX1_pass 24 = .ok (.aload_n 0, 1) := by decide +kernel
theorem dX1_pass_25 : decode cX1_pass 25 = .ok (.dup, 1) := by decide +kernel
theorem dX1_pass_26 : decode cX1_pass 26 = .ok (.getfield 9, 3) := by decide +kernel
theorem dX1_pass_29 : decode cX1_pass 29 = .ok (.iconst 1, 1) := by decide +kernel
theorem dX1_pass_30 : decode cX1_pass 30 = .ok (.iadd, 1) := by decide +kernel
theorem dX1_pass_31 : decode cX1_pass 31 = .ok (.putfield 9, 3) := by decide +kernel
theorem dX1_pass_34 : decode cX1_pass 34 = .ok (.iinc 3 1, 3) := by decide +kernel
theorem dX1_pass_37 : decode cX1_pass 37 = .ok (.goto (-35), 3) := by decide +kernel
theorem dX1_pass_40 : decode cX1_pass 40 = .ok (.return_, 1) := by decide +kernel
theorem dX2_init_0 : decode cX2_init 0 = .ok (.aload_n 0, 1) := by decide +kernel
theorem dX2_init_1 : decode cX2_init 1 = .ok (.invokespecial 3, 3) := by decide +kernel
theorem dX2_init_4 : decode cX2_init 4 = .ok (.aload_n 0, 1) := by decide +kernel
theorem dX2_init_5 : decode cX2_init 5 = .ok (.iconst 0, 1) := by decide +kernel
theorem dX2_init_6 : decode cX2_init 6 = .ok (.putfield 9, 3) := by decide +kernel
theorem dX2_init_9 : decode cX2_init 9 = .ok (.aload_n 0, 1) := by decide +kernel
theorem dX2_init_10 : decode cX2_init 10 = .ok (.bipush 120, 2) := by decide +kernel
theorem dX2_init_12 : decode cX2_init 12 = .ok (.newarray .int, 2) := by decide +kernel
theorem dX2_init_14 : decode cX2_init 14 = .ok (.putfield 15, 3) := by decide +kernel
theorem dX2_init_17 : decode cX2_init 17 = .ok (.aload_n 0, 1) := by decide +kernel
theorem dX2_init_18 : decode cX2_init 18 = .ok (.bipush 120, 2) := by decide +kernel
theorem dX2_init_20 : decode cX2_init 20 = .ok (.newarray .int, 2) := by decide +kernel
theorem dX2_init_22 : decode cX2_init 22 = .ok (.putfield 19, 3) := by decide +kernel
theorem dX2_init_25 : decode cX2_init 25 = .ok (.aload_n 0, 1) := by decide +kernel
theorem dX2_init_26 : decode cX2_init 26 = .ok (.bipush 120, 2) := by decide +kernel
theorem dX2_init_28 : decode cX2_init 28 = .ok (.newarray .int, 2) := by decide +kernel
theorem dX2_init_30 : decode cX2_init 30 = .ok (.putfield 22, 3) := by decide +kernel
theorem dX2_init_33 : decode cX2_init 33 = .ok (.aload_n 0, 1) := by decide +kernel
theorem dX2_init_34 : decode cX2_init 34 = .ok (.bipush 120, 2) := by decide +kernel
theorem dX2_init_36 : decode cX2_init 36 = .ok (.newarray .int, 2) := by decide +kernel
theorem dX2_init_38 : decode cX2_init 38 = .ok (.putfield 25, 3) := by decide +kernel
theorem dX2_init_41 : decode cX2_init 41 = .ok (.return_, 1) := by decide +kernel
theorem dX2_renew_0 : decode cX2_renew 0 = .ok (.aload_n 0, 1) := by decide +kernel
theorem dX2_renew_1 : decode cX2_renew 1 = .ok (.iload_n 1, 1) := by decide +kernel
theorem dX2_renew_2 : decode cX2_renew 2 = .ok (.putfield 9, 3) := by decide +kernel
theorem dX2_renew_5 : decode cX2_renew 5 = .ok (.iconst 0, 1) := by decide +kernel
theorem dX2_renew_6 : decode cX2_renew 6 = .ok (.istore_n 2, 1) := by decide +kernel
theorem dX2_renew_7 : decode cX2_renew 7 = .ok (.iload_n 2, 1) := by decide +kernel
theorem dX2_renew_8 : decode cX2_renew 8 = .ok (.aload_n 0, 1) := by decide +kernel
theorem dX2_renew_9 : decode cX2_renew 9 = .ok (.getfield 9, 3) := by decide +kernel
theorem dX2_renew_12 : decode cX2_renew 12 = .ok (.if_icmp .ge 16, 3) := by decide +kernel
theorem dX2_renew_15 : decode cX2_renew 15 = .ok (.aload_n 0, 1) := by decide +kernel
theorem dX2_renew_16 : decode cX2_renew 16 = .ok (.iload_n 2, 1) := by decide +kernel
theorem dX2_renew_17 : decode cX2_renew 17 = .ok (.iconst 0, 1) := by decide +kernel
theorem dX2_renew_18 : decode cX2_renew 18 = .ok (.iconst 0, 1) := by decide +kernel
theorem dX2_renew_19 : decode cX2_renew 19 = .ok (.invokevirtual 28, 3) := by decide +kernel
theorem dX2_renew_22 : decode cX2_renew 22 = .ok (.iinc 2 1, 3) := by decide +kernel
theorem dX2_renew_25 : decode cX2_renew 25 = .ok (.goto (-18), 3) := by decide +kernel
theorem dX2_renew_28 : decode cX2_renew 28 = .ok (.return_, 1) := by decide +kernel
theorem dX2_copyFrom_0 : decode cX2_copyFrom 0 = .ok (.aload_n 0, 1) := by decide +kernel
theorem dX2_copyFrom_1 : decode cX2_copyFrom 1 = .ok (.aload_n 1, 1) := by decide +kernel
theorem dX2_copyFrom_2 : decode cX2_copyFrom 2 = .ok (.getfield 9, 3) := by decide +kernel
theorem dX2_copyFrom_5 : decode cX2_copyFrom 5 = .ok (.putfield 9, 3) := by decide +kernel
theorem dX2_copyFrom_8 : decode cX2_copyFrom 8 = .ok (.aload_n 1, 1) := by decide +kernel
theorem dX2_copyFrom_9 : decode cX2_copyFrom 9 = .ok (.getfield 15, 3) := by decide +kernel
theorem dX2_copyFrom_12 : decode cX2_copyFrom 12 = .ok (.iconst 0, 1) := by decide +kernel
theorem dX2_copyFrom_13 : decode cX2_copyFrom 13 = .ok (.aload_n 0, 1) := by decide +kernel
theorem dX2_copyFrom_14 : decode cX2_copyFrom 14 = .ok (.getfield 15, 3) := by decide +kernel
theorem dX2_copyFrom_17 : decode cX2_copyFrom 17 = .ok (.iconst 0, 1) := by decide +kernel
theorem dX2_copyFrom_18 : decode cX2_copyFrom 18 = .ok (.aload_n 0, 1) := by decide +kernel
theorem dX2_copyFrom_19 : decode cX2_copyFrom 19 = .ok (.getfield 9, 3) := by decide +kernel
theorem dX2_copyFrom_22 : decode cX2_copyFrom 22 = .ok (.invokestatic 32, 3) := by decide +kernel
theorem dX2_copyFrom_25 : decode cX2_copyFrom 25 = .ok (.aload_n 1, 1) := by decide +kernel
theorem dX2_copyFrom_26 : decode cX2_copyFrom 26 = .ok (.getfield 19, 3) := by decide +kernel
theorem dX2_copyFrom_29 : decode cX2_copyFrom 29 = .ok (.iconst 0, 1) := by decide +kernel
theorem dX2_copyFrom_30 : decode cX2_copyFrom 30 = .ok (.aload_n 0, 1) := by decide +kernel
theorem dX2_copyFrom_31 : decode cX2_copyFrom 31 = .ok (.getfield 19, 3) := by decide +kernel
theorem dX2_copyFrom_34 : decode cX2_copyFrom 34 = .ok (.iconst 0, 1) := by decide +kernel
theorem dX2_copyFrom_35 : decode cX2_copyFrom 35 = .ok (.aload_n 0, 1) := by decide +kernel
theorem dX2_copyFrom_36 : decode cX2_copyFrom 36 = .ok (.getfield 9, 3) := by decide +kernel
theorem dX2_copyFrom_39 : decode cX2_copyFrom 39 = .ok (.invokestatic 32, 3) := by decide +kernel
theorem dX2_copyFrom_42 : decode cX2_copyFrom 42 = .ok (.aload_n 1, 1) := by decide +kernel
theorem dX2_copyFrom_43 : decode cX2_copyFrom 43 = .ok (.getfield 22, 3) := by decide +kernel
theorem dX2_copyFrom_46 : decode cX2_copyFrom 46 = .ok (.iconst 0, 1) := by decide +kernel
theorem dX2_copyFrom_47 : decode cX2_copyFrom 47 = .ok (.aload_n 0, 1) := by decide +kernel
theorem dX2_copyFrom_48 : decode cX2_copyFrom 48 = .ok (.getfield 22, 3) := by decide +kernel
theorem dX2_copyFrom_51 : decode cX2_copyFrom 51 = .ok (.iconst 0, 1) := by decide +kernel
theorem dX2_copyFrom_52 : decode cX2_copyFrom 52 = .ok (.aload_n 0, 1) := by decide +kernel
theorem dX2_copyFrom_53 : decode cX2_copyFrom 53 = .ok (.getfield 9, 3) := by decide +kernel
theorem dX2_copyFrom_56 : decode cX2_copyFrom 56 = .ok (.invokestatic 32, 3) := by decide +kernel
theorem dX2_copyFrom_59 : decode cX2_copyFrom 59 = .ok (.aload_n 1, 1) := by decide +kernel
theorem dX2_copyFrom_60 : decode cX2_copyFrom 60 = .ok (.getfield 25, 3) := by decide +kernel
theorem dX2_copyFrom_63 : decode cX2_copyFrom 63 = .ok (.iconst 0, 1) := by decide +kernel
theorem dX2_copyFrom_64 : decode cX2_copyFrom 64 = .ok (.aload_n 0, 1) := by decide +kernel
theorem dX2_copyFrom_65 : decode cX2_copyFrom 65 = .ok (.getfield 25, 3) := by decide +kernel
theorem dX2_copyFrom_68 : decode cX2_copyFrom 68 = .ok (.iconst 0, 1) := by decide +kernel
theorem dX2_copyFrom_69 : decode cX2_copyFrom 69 = .ok (.aload_n 0, 1) := by decide +kernel
theorem dX2_copyFrom_70 : decode cX2_copyFrom 70 = .ok (.getfield 9, 3) := by decide +kernel
theorem dX2_copyFrom_73 : decode cX2_copyFrom 73 = .ok (.invokestatic 32, 3) := by decide +kernel
theorem dX2_copyFrom_76 : decode cX2_copyFrom 76 = .ok (.return_, 1) := by decide +kernel
theorem dX2_put_0 : decode cX2_put 0 = .ok (.aload_n 0, 1) := by decide +kernel
theorem dX2_put_1 : decode cX2_put 1 = .ok (.getfield 15, 3) := by decide +kernel
theorem dX2_put_4 : decode cX2_put 4 = .ok (.iload_n 1, 1) := by decide +kernel
theorem dX2_put_5 : decode cX2_put 5 = .ok (.iload_n 2, 1) := by decide +kernel
theorem dX2_put_6 : decode cX2_put 6 = .ok (.iastore, 1) := by decide +kernel
theorem dX2_put_7 : decode cX2_put 7 = .ok (.aload_n 0, 1) := by decide +kernel
theorem dX2_put_8 : decode cX2_put 8 = .ok (.getfield 19, 3) := by decide +kernel
theorem dX2_put_11 : decode cX2_put 11 = .ok (.iload_n 1, 1) := by decide +kernel
theorem dX2_put_12 : decode cX2_put 12 = .ok (.iload_n 3, 1) := by decide +kernel
theorem dX2_put_13 : decode cX2_put 13 = .ok (.iastore, 1) := by decide +kernel
theorem dX2_put_14 : decode cX2_put 14 = .ok (.aload_n 0, 1) := by decide +kernel
theorem dX2_put_15 : decode cX2_put 15 = .ok (.getfield 22, 3) := by decide +kernel
theorem dX2_put_18 : decode cX2_put 18 = .ok (.iload_n 1, 1) := by decide +kernel
theorem dX2_put_19 : decode cX2_put 19 = .ok (.iconst (-1), 1) := by decide +kernel
theorem dX2_put_20 : decode cX2_put 20 = .ok (.iastore, 1) := by decide +kernel
theorem dX2_put_21 : decode cX2_put 21 = .ok (.aload_n 0, 1) := by decide +kernel
theorem dX2_put_22 : decode cX2_put 22 = .ok (.getfield 25, 3) := by decide +kernel
theorem dX2_put_25 : decode cX2_put 25 = .ok (.iload_n 1, 1) := by decide +kernel
theorem dX2_put_26 : decode cX2_put 26 = .ok (.iconst 0, 1) := by decide +kernel
theorem dX2_put_27 : decode cX2_put 27 = .ok (.iastore, 1) := by decide +kernel
theorem dX2_put_28 : decode cX2_put 28 = .ok (.return_, 1) := by decide +kernel
theorem dX2_moveOn_0 : decode cX2_moveOn 0 = .ok (.iload_n 2, 1) := by decide +kernel
theorem dX2_moveOn_1 : decode cX2_moveOn 1 = .ok (.iload_n 1, 1) := by decide +kernel
theorem dX2_moveOn_2 : decode cX2_moveOn 2 = .ok (.isub, 1) := by decide +kernel
theorem dX2_moveOn_3 : decode cX2_moveOn 3 = .ok (.istore_n 3, 1) := by decide +kernel
theorem dX2_moveOn_4 : decode cX2_moveOn 4 = .ok (.aload_n 0, 1) := by decide +kernel
theorem dX2_moveOn_5 : decode cX2_moveOn 5 = .ok (.getfield 15, 3) := by decide +kernel
theorem dX2_moveOn_8 : decode cX2_moveOn 8 = .ok (.iload_n 1, 1) := by decide +kernel
theorem dX2_moveOn_9 : decode cX2_moveOn 9 = .ok (.aload_n 0, 1) := by decide +kernel
theorem dX2_moveOn_10 : decode cX2_moveOn 10 = .ok (.getfield 15, 3) := by decide +kernel
theorem dX2_moveOn_13 : decode cX2_moveOn 13 = .ok (.iload_n 1, 1) := by decide +kernel
theorem dX2_moveOn_14 : decode cX2_moveOn 14 = .ok (.iconst 1, 1) := by decide +kernel
theorem dX2_moveOn_15 : decode cX2_moveOn 15 = .ok (.iadd, 1) := by decide +kernel
theorem dX2_moveOn_16 : decode cX2_moveOn 16 = .ok (.iload_n 3, 1) := by decide +kernel
theorem dX2_moveOn_17 : decode cX2_moveOn 17 = .ok (.invokestatic 32, 3) := by decide +kernel
theorem dX2_moveOn_20 : decode cX2_moveOn 20 = .ok (.aload_n 0, 1) := by decide +kernel
theorem dX2_moveOn_21 : decode cX2_moveOn 21 = .ok (.getfield 19, 3) := by decide +kernel
theorem dX2_moveOn_24 : decode cX2_moveOn 24 = .ok (.iload_n 1, 1) := by decide +kernel
theorem dX2_moveOn_25 : decode cX2_moveOn 25 = .ok (.aload_n 0, 1) := by decide +kernel
theorem dX2_moveOn_26 : decode cX2_moveOn 26 = .ok (.getfield 19, 3) := by decide +kernel
theorem dX2_moveOn_29 : decode cX2_moveOn 29 = .ok (.iload_n 1, 1) := by decide +kernel
theorem dX2_moveOn_30 : decode cX2_moveOn 30 = .ok (.iconst 1, 1) := by decide +kernel
theorem dX2_moveOn_31 : decode cX2_moveOn 31 = .ok (.iadd, 1) := by decide +kernel
theorem dX2_moveOn_32 : decode cX2_moveOn 32 = .ok (.iload_n 3, 1) := by decide +kernel
theorem dX2_moveOn_33 : decode cX2_moveOn 33 = .ok (.invokestatic 32, 3) := by decide +kernel
theorem dX2_moveOn_36 : decode cX2_moveOn 36 = .ok (.aload_n 0, 1) := by decide +kernel
theorem dX2_moveOn_37 : decode cX2_moveOn 37 = .ok (.getfield 22, 3) := by decide +kernel
theorem dX2_moveOn_40 : decode cX2_moveOn 40 = .ok (.iload_n 1, 1) := by decide +kernel
theorem dX2_moveOn_41 : decode cX2_moveOn 41 = .ok (.aload_n 0, 1) := by decide +kernel
theorem dX2_moveOn_42 : decode cX2_moveOn 42 = .ok (.getfield 22, 3) := by decide +kernel
theorem dX2_moveOn_45 : decode cX2_moveOn 45 = .ok (.iload_n 1, 1) := by decide +kernel
theorem dX2_moveOn_46 : decode cX2_moveOn 46 = .ok (.iconst 1, 1) := by decide +kernel
theorem dX2_moveOn_47 : decode cX2_moveOn 47 = .ok (.iadd, 1) := by decide +kernel
theorem dX2_moveOn_48 : decode cX2_moveOn 48 = .ok (.iload_n 3, 1) := by decide +kernel
theorem dX2_moveOn_49 : decode cX2_moveOn 49 = .ok (.invokestatic 32, 3) := by decide +kernel
theorem dX2_moveOn_52 : decode cX2_moveOn 52 = .ok (.aload_n 0, 1) := by decide +kernel
theorem dX2_moveOn_53 : decode cX2_moveOn 53 = .ok (.getfield 25, 3) := by decide +kernel
theorem dX2_moveOn_56 : decode cX2_moveOn 56 = .ok (.iload_n 1, 1) := by decide +kernel
theorem dX2_moveOn_57 : decode cX2_moveOn 57 = .ok (.aload_n 0, 1) := by decide +kernel
theorem dX2_moveOn_58 : decode cX2_moveOn 58 = .ok (.getfield 25, 3) := by decide +kernel
theorem dX2_moveOn_61 : decode cX2_moveOn 61 = .ok (.iload_n 1, 1) := by decide +kernel
theorem dX2_moveOn_62 : decode cX2_moveOn 62 = .ok (.iconst 1, 1) := by decide +kernel
theorem dX2_moveOn_63 : decode cX2_moveOn 63 = .ok (.iadd, 1) := by decide +kernel
theorem dX2_moveOn_64 : decode cX2_moveOn 64 = .ok (.iload_n 3, 1) := by decide +kernel
theorem dX2_moveOn_65 : decode cX2_moveOn 65 = .ok (.invokestatic 32, 3) := by decide +kernel
theorem dX2_moveOn_68 : decode cX2_moveOn 68 = .ok (.return_, 1) := by decide +kernel
theorem dX2_isPure_0 : decode cX2_isPure 0 = .ok (.aload_n 0, 1) := by decide +kernel
theorem dX2_isPure_1 : decode cX2_isPure 1 = .ok (.getfield 22, 3) := by decide +kernel
theorem dX2_isPure_4 : decode cX2_isPure 4 = .ok (.iload_n 1, 1) := by decide +kernel
theorem dX2_isPure_5 : decode cX2_isPure 5 = .ok (.iaload, 1) := by decide +kernel
theorem dX2_isPure_6 : decode cX2_isPure 6 = .ok (.iconst (-1), 1) := by decide +kernel
theorem dX2_isPure_7 : decode cX2_isPure 7 = .ok (.if_icmp .ne 7, 3) := by decide +kernel
theorem dX2_isPure_10 : decode cX2_isPure 10 = .ok (.iconst 1, 1) := by decide +kernel
theorem dX2_isPure_11 : decode cX2_isPure 11 = .ok (.goto 4, 3) := by decide +kernel
theorem dX2_isPure_14 : decode cX2_isPure 14 = .ok (.iconst 0, 1) := by decide +kernel
theorem dX2_isPure_15 : decode cX2_isPure 15 = .ok (.ireturn, 1) := by decide +kernel
theorem dX2_neighbourToBegin_0 : decode cX2_neighbourToBegin 0 = .ok (.iload_n 1, 1) := by decide +kernel
theorem dX2_neighbourToBegin_1 : decode cX2_neighbourToBegin 1 = .ok (.iconst 1, 1) := by decide +kernel
theorem dX2_neighbourToBegin_2 : decode cX2_neighbourToBegin 2 = .ok (.isub, 1) := by decide +kernel
theorem dX2_neighbourToBegin_3 : decode cX2_neighbourToBegin 3 = .ok (.istore_n 2, 1) := by decide +kernel
theorem dX2_neighbourToBegin_4 : decode cX2_neighbourToBegin 4 = .ok (.iload_n 2, 1) := by decide +kernel
theorem dX2_neighbourToBegin_5 : decode cX2_neighbourToBegin 5 = .ok (.ifCond .lt 19, 3) := by decide +kernel
theorem dX2_neighbourToBegin_8 : decode cX2_neighbourToBegin 8 = .ok (.aload_n 0, 1) := by decide +kernel
theorem dX2_neighbourToBegin_9 : decode cX2_neighbourToBegin 9 = .ok (.iload_n 2, 1) := by decide +kernel
theorem dX2_neighbourToBegin_10 : decode cX2_neighbourToBegin 10 = .ok (.invokevirtual 38, 3) := by decide +kernel
theorem dX2_neighbourToBegin_13 : decode cX2_neighbourToBegin 13 = .ok (.ifCond .eq 5, 3) := by decide +kernel
theorem dX2_neighbourToBegin_16 : decode cX2_neighbourToBegin 16 = .ok (.iload_n 2, 1) := by decide +kernel
theorem dX2_neighbourToBegin_17 : decode cX2_neighbourToBegin 17 = .ok (.ireturn, 1) := by decide +kernel
theorem dX2_neighbourToBegin_18 : decode cX2_neighbourToBegin 18 = .ok (.iinc 2 (-1), 3) := by decide +kernel
theorem dX2_neighbourToBegin_21 : decode cX2_neighbourToBegin 21 = .ok (.goto (-17), 3) := by decide +kernel
theorem dX2_neighbourToBegin_24 : decode cX2_neighbourToBegin 24 = .ok (.iconst (-1), 1) := by decide +kernel
theorem dX2_neighbourToBegin_25 : decode cX2_neighbourToBegin 25 = .ok (.ireturn, 1) := by decide +kernel
theorem dX2_neighbourToEnd_0 : decode cX2_neighbourToEnd 0 = .ok (.iload_n 1, 1) := by decide +kernel
theorem dX2_neighbourToEnd_1 : decode cX2_neighbourToEnd 1 = .ok (.iconst 1, 1) := by decide +kernel
theorem dX2_neighbourToEnd_2 : decode cX2_neighbourToEnd 2 = .ok (.iadd, 1) := by decide +kernel
theorem dX2_neighbourToEnd_3 : decode cX2_neighbourToEnd 3 = .ok (.istore_n 2, 1) := by decide +kernel
theorem dX2_neighbourToEnd_4 : decode cX2_neighbourToEnd 4 = .ok (.iload_n 2, 1) := by decide +kernel
theorem dX2_neighbourToEnd_5 : decode cX2_neighbourToEnd 5 = .ok (.aload_n 0, 1) := by decide +kernel
theorem dX2_neighbourToEnd_6 : decode cX2_neighbourToEnd 6 = .ok (.getfield 9, 3) := by decide +kernel
theorem dX2_neighbourToEnd_9 : decode cX2_neighbourToEnd 9 = .ok (.if_icmp .ge 19, 3) := by decide +kernel
theorem dX2_neighbourToEnd_12 : decode cX2_neighbourToEnd 12 = .ok (.aload_n 0, 1) := by decide +kernel
theorem dX2_neighbourToEnd_13 : decode cX2_neighbourToEnd 13 = .ok (.iload_n 2, 1) := by decide +kernel
theorem dX2_neighbourToEnd_14 : decode cX2_neighbourToEnd 14 = .ok (.invokevirtual 38, 3) := by decide +kernel
theorem dX2_neighbourToEnd_17 : decode cX2_neighbourToEnd 17 = .ok (.ifCond .eq 5, 3) := by decide +kernel
theorem dX2_neighbourToEnd_20 : decode cX2_neighbourToEnd 20 = .ok (.iload_n 2, 1) := by decide +kernel
theorem dX2_neighbourToEnd_21 : decode cX2_neighbourToEnd 21 = .ok (.ireturn, 1) := by decide +kernel
theorem dX2_neighbourToEnd_22 : decode cX2_neighbourToEnd 22 = .ok (.iinc 2 1, 3) := by decide +kernel
theorem dX2_neighbourToEnd_25 : decode cX2_neighbourToEnd 25 = .ok (.goto (-21), 3) := by decide +kernel
theorem dX2_neighbourToEnd_28 : decode cX2_neighbourToEnd 28 = .ok (.iconst (-1), 1) := by decide +kernel
theorem dX2_neighbourToEnd_29 : decode cX2_neighbourToEnd 29 = .ok (.ireturn, 1) := by decide +kernel
theorem dX2_isBorder_0 : decode cX2_isBorder 0 = .ok (.aload_n 0, 1) := by decide +kernel
theorem dX2_isBorder_1 : decode cX2_isBorder 1 = .ok (.iload_n 1, 1) := by decide +kernel
theorem dX2_isBorder_2 : decode cX2_isBorder 2 = .ok (.invokevirtual 38, 3) := by decide +kernel
theorem dX2_isBorder_5 : decode cX2_isBorder 5 = .ok (.ifCond .ne 5, 3) := by decide +kernel
theorem dX2_isBorder_8 : decode cX2_isBorder 8 = .ok (.iconst 0, 1) := by decide +kernel
theorem dX2_isBorder_9 : decode cX2_isBorder 9 = .ok (.ireturn, 1) := by decide +kernel
theorem dX2_isBorder_10 : decode cX2_isBorder 10 = .ok (.aload_n 0, 1) := by decide +kernel
theorem dX2_isBorder_11 : decode cX2_isBorder 11 = .ok (.iload_n 1, 1) := by decide +kernel
theorem dX2_isBorder_12 : decode cX2_isBorder 12 = .ok (.invokevirtual 42, 3) := by decide +kernel
theorem dX2_isBorder_15 : decode cX2_isBorder 15 = .ok (.istore_n 2, 1) := by decide +kernel
theorem dX2_isBorder_16 : decode cX2_isBorder 16 = .ok (.iload_n 2, 1) := by decide +kernel
theorem dX2_isBorder_17 : decode cX2_isBorder 17 = .ok (.iconst (-1), 1) := by decide +kernel
theorem dX2_isBorder_18 : decode cX2_isBorder 18 = .ok (.if_icmp .eq 22, 3) := by decide +kernel
theorem dX2_isBorder_21 : decode cX2_isBorder 21 = .ok (.aload_n 0, 1) := by decide +kernel
theorem dX2_isBorder_22 : decode cX2_isBorder 22 = .ok (.getfield 19, 3) := by decide +kernel
theorem dX2_isBorder_25 : decode cX2_isBorder 25 = .ok (.iload_n 2, 1) := by decide +kernel
theorem dX2_isBorder_26 : decode cX2_isBorder 26 = .ok (.iaload, 1) := by decide +kernel
theorem dX2_isBorder_27 : decode cX2_isBorder 27 = .ok (.aload_n 0, 1) := by decide +kernel
theorem dX2_isBorder_28 : decode cX2_isBorder 28 = .ok (.getfield 19, 3) := by decide +kernel
theorem dX2_isBorder_31 : decode cX2_isBorder 31 = .ok (.iload_n 1, 1) := by decide +kernel
theorem dX2_isBorder_32 : decode cX2_isBorder 32 = .ok (.iaload, 1) := by decide +kernel
theorem dX2_isBorder_33 : decode cX2_isBorder 33 = .ok (.if_icmp .eq 7, 3) := by decide +kernel
theorem dX2_isBorder_36 : decode cX2_isBorder 36 = .ok (.iconst 1, 1) := by decide +kernel
theorem dX2_isBorder_37 : decode cX2_isBorder 37 = .ok (.goto 4, 3) := by decide +kernel
theorem dX2_isBorder_40 : decode cX2_isBorder 40 = .ok (.iconst 0, 1) := by decide +kernel
theorem dX2_isBorder_41 : decode cX2_isBorder 41 = .ok (.ireturn, 1) := by decide +kernel
theorem dX2_countBorders_0 : decode cX2_countBorders 0 = .ok (.iconst 0, 1) := by decide +kernel
theorem dX2_countBorders_1 : decode cX2_countBorders 1 = .ok (.istore_n 1, 1) := by decide +kernel
theorem dX2_countBorders_2 : decode cX2_countBorders 2 = .ok (.iconst 0, 1) := by decide +kernel
theorem dX2_countBorders_3 : decode cX2_countBorders 3 = .ok (.istore_n 2, 1) := by decide +kernel
theorem dX2_countBorders_4 : decode cX2_countBorders 4 = .ok (.iload_n 2, 1) := by decide +kernel
theorem dX2_countBorders_5 : decode cX2_countBorders 5 = .ok (.aload_n 0, 1) := by decide +kernel
theorem dX2_countBorders_6 : decode cX2_countBorders 6 = .ok (.getfield 9, 3) := by decide +kernel
theorem dX2_countBorders_9 : decode cX2_countBorders 9 = .ok (.if_icmp .ge 20, 3) := by decide +kernel
theorem dX2_countBorders_12 : decode cX2_countBorders 12 = .ok (.aload_n 0, 1) := by decide +kernel
theorem dX2_countBorders_13 : decode cX2_countBorders 13 = .ok (.iload_n 2, 1) := by decide +kernel
theorem dX2_countBorders_14 : decode cX2_countBorders 14 = .ok (.invokevirtual 46, 3) := by decide +kernel
theorem dX2_countBorders_17 : decode cX2_countBorders 17 = .ok (.ifCond .eq 6, 3) := by decide +kernel
theorem dX2_countBorders_20 : decode cX2_countBorders 20 = .ok (.iinc 1 1, 3) := by decide +kernel
theorem dX2_countBorders_23 : decode cX2_countBorders 23 = .ok (.iinc 2 1, 3) := by decide +kernel
theorem dX2_countBorders_26 : decode cX2_countBorders 26 = .ok (.goto (-22), 3) := by decide +kernel
theorem dX2_countBorders_29 : decode cX2_countBorders 29 = .ok (.iload_n 1, 1) := by decide +kernel
theorem dX2_countBorders_30 : decode cX2_countBorders 30 = .ok (.ireturn, 1) := by decide +kernel
theorem dX2_countMixed_0 : decode cX2_countMixed 0 = .ok (.iconst 0, 1) := by decide +kernel
theorem dX2_countMixed_1 : decode cX2_countMixed 1 = .ok (.istore_n 1, 1) := by decide +kernel
theorem dX2_countMixed_2 : decode cX2_countMixed 2 = .ok (.iconst 0, 1) := by decide +kernel
theorem dX2_countMixed_3 : decode cX2_countMixed 3 = .ok (.istore_n 2, 1) := by decide +kernel
theorem dX2_countMixed_4 : decode cX2_countMixed 4 = .ok (.iload_n 2, 1) := by decide +kernel
theorem dX2_countMixed_5 : decode cX2_countMixed 5 = .ok (.aload_n 0, 1) := by decide +kernel
theorem dX2_countMixed_6 : decode cX2_countMixed 6 = .ok (.getfield 9, 3) := by decide +kernel
theorem dX2_countMixed_9 : decode cX2_countMixed 9 = .ok (.if_icmp .ge 20, 3) := by decide +kernel
theorem dX2_countMixed_12 : decode cX2_countMixed 12 = .ok (.aload_n 0, 1) := by decide +kernel
theorem dX2_countMixed_13 : decode cX2_countMixed 13 = .ok (.iload_n 2, 1) := by decide +kernel
theorem dX2_countMixed_14 : decode cX2_countMixed 14 = .ok (.invokevirtual 38, 3) := by decide +kernel
theorem dX2_countMixed_17 : decode cX2_countMixed 17 = .ok (.ifCond .ne 6, 3) := by decide +kernel
theorem dX2_countMixed_20 : decode cX2_countMixed 20 = .ok (.iinc 1 1, 3) := by decide +kernel
theorem dX2_countMixed_23 : decode cX2_countMixed 23 = .ok (.iinc 2 1, 3) := by decide +kernel
theorem dX2_countMixed_26 : decode cX2_countMixed 26 = .ok (.goto (-22), 3) := by decide +kernel
theorem dX2_countMixed_29 : decode cX2_countMixed 29 = .ok (.iload_n 1, 1) := by decide +kernel
theorem dX2_countMixed_30 : decode cX2_countMixed 30 = .ok (.ireturn, 1) := by decide +kernel
theorem dX2_countOf_0 : decode cX2_countOf 0 = .ok (.iconst 0, 1) := by decide +kernel
theorem dX2_countOf_1 : decode cX2_countOf 1 = .ok (.istore_n 2, 1) := by decide +kernel
theorem dX2_countOf_2 : decode cX2_countOf 2 = .ok (.iconst 0, 1) := by decide +kernel
theorem dX2_countOf_3 : decode cX2_countOf 3 = .ok (.istore_n 3, 1) := by decide +kernel
theorem dX2_countOf_4 : decode cX2_countOf 4 = .ok (.iload_n 3, 1) := by decide +kernel
theorem dX2_countOf_5 : decode cX2_countOf 5 = .ok (.aload_n 0, 1) := by decide +kernel
theorem dX2_countOf_6 : decode cX2_countOf 6 = .ok (.getfield 9, 3) := by decide +kernel
theorem dX2_countOf_9 : decode cX2_countOf 9 = .ok (.if_icmp .ge 22, 3) := by decide +kernel
theorem dX2_countOf_12 : decode cX2_countOf 12 = .ok (.aload_n 0, 1) := by decide +kernel
theorem dX2_countOf_13 : decode cX2_countOf 13 = .ok (.getfield 15, 3) := by decide +kernel
theorem dX2_countOf_16 : decode cX2_countOf 16 = .ok (.iload_n 3, 1) := by decide +kernel
theorem dX2_countOf_17 : decode cX2_countOf 17 = .ok (.iaload, 1) := by decide +kernel
theorem dX2_countOf_18 : decode cX2_countOf 18 = .ok (.iload_n 1, 1) := by decide +kernel
theorem dX2_countOf_19 : decode cX2_countOf 19 = .ok (.if_icmp .ne 6, 3) := by decide +kernel
theorem dX2_countOf_22 : decode cX2_countOf 22 = .ok (.iinc 2 1, 3) := by decide +kernel
theorem dX2_countOf_25 : decode cX2_countOf 25 = .ok (.iinc 3 1, 3) := by decide +kernel
theorem dX2_countOf_28 : decode cX2_countOf 28 = .ok (.goto (-24), 3) := by decide +kernel
theorem dX2_countOf_31 : decode cX2_countOf 31 = .ok (.iload_n 2, 1) := by decide +kernel
theorem dX2_countOf_32 : decode cX2_countOf 32 = .ok (.ireturn, 1) := by decide +kernel
theorem dX2_leastOf_0 : decode cX2_leastOf 0 = .ok (.iconst 0, 1) := by decide +kernel
theorem dX2_leastOf_1 : decode cX2_leastOf 1 = .ok (.istore_n 2, 1) := by decide +kernel
theorem dX2_leastOf_2 : decode cX2_leastOf 2 = .ok (.iload_n 2, 1) := by decide +kernel
theorem dX2_leastOf_3 : decode cX2_leastOf 3 = .ok (.aload_n 0, 1) := by decide +kernel
theorem dX2_leastOf_4 : decode cX2_leastOf 4 = .ok (.getfield 9, 3) := by decide +kernel
theorem dX2_leastOf_7 : decode cX2_leastOf 7 = .ok (.if_icmp .ge 21, 3) := by decide +kernel
theorem dX2_leastOf_10 : decode cX2_leastOf 10 = .ok (.aload_n 0, 1) := by decide +kernel
theorem dX2_leastOf_11 : decode cX2_leastOf 11 = .ok (.getfield 15, 3) := by decide +kernel
theorem dX2_leastOf_14 : decode cX2_leastOf 14 = .ok (.iload_n 2, 1) := by decide +kernel
theorem dX2_leastOf_15 : decode cX2_leastOf 15 = .ok (.iaload, 1) := by decide +kernel
theorem dX2_leastOf_16 : decode cX2_leastOf 16 = .ok (.iload_n 1, 1) := by decide +kernel
theorem dX2_leastOf_17 : decode cX2_leastOf 17 = .ok (.if_icmp .ne 5, 3) := by decide +kernel
theorem dX2_leastOf_20 : decode cX2_leastOf 20 = .ok (.iload_n 2, 1) := by decide +kernel
theorem dX2_leastOf_21 : decode cX2_leastOf 21 = .ok (.ireturn, 1) := by decide +kernel
theorem dX2_leastOf_22 : decode cX2_leastOf 22 = .ok (.iinc 2 1, 3) := by decide +kernel
theorem dX2_leastOf_25 : decode cX2_leastOf 25 = .ok (.goto (-23), 3) := by decide +kernel
theorem dX2_leastOf_28 : decode cX2_leastOf 28 = .ok (.iconst (-1), 1) := by decide +kernel
theorem dX2_leastOf_29 : decode cX2_leastOf 29 = .ok (.ireturn, 1) := by decide +kernel
theorem dX2_greatestOf_0 : decode cX2_greatestOf 0 = .ok (.aload_n 0, 1) := by decide +kernel
theorem dX2_greatestOf_1 : decode cX2_greatestOf 1 = .ok (.getfield 9, 3) := by decide +kernel
theorem dX2_greatestOf_4 : decode cX2_greatestOf 4 = .ok (.iconst 1, 1) := by decide +kernel
theorem dX2_greatestOf_5 : decode cX2_greatestOf 5 = .ok (.isub, 1) := by decide +kernel
theorem dX2_greatestOf_6 : decode cX2_greatestOf 6 = .ok (.istore_n 2, 1) := by decide +kernel
theorem dX2_greatestOf_7 : decode cX2_greatestOf 7 = .ok (.iload_n 2, 1) := by decide +kernel
theorem dX2_greatestOf_8 : decode cX2_greatestOf 8 = .ok (.ifCond .lt 21, 3) := by decide +kernel
theorem dX2_greatestOf_11 : decode cX2_greatestOf 11 = .ok (.aload_n 0, 1) := by decide +kernel
theorem dX2_greatestOf_12 : decode cX2_greatestOf 12 = .ok (.getfield 15, 3) := by decide +kernel
theorem dX2_greatestOf_15 : decode cX2_greatestOf 15 = .ok (.iload_n 2, 1) := by decide +kernel
theorem dX2_greatestOf_16 : decode cX2_greatestOf 16 = .ok (.iaload, 1) := by decide +kernel
theorem dX2_greatestOf_17 : decode cX2_greatestOf 17 = .ok (.iload_n 1, 1) := by decide +kernel
theorem dX2_greatestOf_18 : decode cX2_greatestOf 18 = .ok (.if_icmp .ne 5, 3) := by decide +kernel
theorem dX2_greatestOf_21 : decode cX2_greatestOf 21 = .ok (.iload_n 2, 1) := by decide +kernel
theorem dX2_greatestOf_22 : decode cX2_greatestOf 22 = .ok (.ireturn, 1) := by decide +kernel
theorem dX2_greatestOf_23 : decode cX2_greatestOf 23 = .ok (.iinc 2 (-1), 3) := by decide +kernel
theorem dX2_greatestOf_26 : decode cX2_greatestOf 26 = .ok (.goto (-19), 3) := by decide +kernel
theorem dX2_greatestOf_29 : decode cX2_greatestOf 29 = .ok (.iconst (-1), 1) := by decide +kernel
theorem dX2_greatestOf_30 : decode cX2_greatestOf 30 = .ok (.ireturn, 1) := by decide +kernel
theorem dX2_mixBorders_0 : decode cX2_mixBorders 0 = .ok (.iconst (-1), 1) := by decide +kernel
theorem dX2_mixBorders_1 : decode cX2_mixBorders 1 = .ok (.istore 4, 2) := by decide +kernel
theorem dX2_mixBorders_3 : decode cX2_mixBorders 3 = .ok (.iload_n 2, 1) := by decide +kernel
theorem dX2_mixBorders_4 : decode cX2_mixBorders 4 = .ok (.iconst 1, 1) := by decide +kernel
theorem dX2_mixBorders_5 : decode cX2_mixBorders 5 = .ok (.isub, 1) := by decide +kernel
theorem dX2_mixBorders_6 : decode cX2_mixBorders 6 = .ok (.istore 5, 2) := by decide +kernel
theorem dX2_mixBorders_8 : decode cX2_mixBorders 8 = .ok (.iload 5, 2) := by decide +kernel
theorem dX2_mixBorders_10 : decode cX2_mixBorders 10 = .ok (.iload_n 1, 1) := by decide +kernel
theorem dX2_mixBorders_11 : decode cX2_mixBorders 11 = .ok (.if_icmp .lt 81, 3) := by decide +kernel
theorem dX2_mixBorders_14 : decode cX2_mixBorders 14 = .ok (.aload_n 0, 1) := by decide +kernel
theorem dX2_mixBorders_15 : decode cX2_mixBorders 15 = .ok (.iload 5, 2) := by decide +kernel
theorem dX2_mixBorders_17 : decode cX2_mixBorders 17 = .ok (.invokevirtual 38, 3) := by decide +kernel
theorem dX2_mixBorders_20 : decode cX2_mixBorders 20 = .ok (.ifCond .ne 6, 3) := by decide +kernel
theorem dX2_mixBorders_23 : decode cX2_mixBorders 23 = .ok (.goto 63, 3) := by decide +kernel
theorem dX2_mixBorders_26 : decode cX2_mixBorders 26 = .ok (.iload 4, 2) := by decide +kernel
theorem dX2_mixBorders_28 : decode cX2_mixBorders 28 = .ok (.iconst (-1), 1) := by decide +kernel
theorem dX2_mixBorders_29 : decode cX2_mixBorders 29 = .ok (.if_icmp .eq 53, 3) := by decide +kernel
theorem dX2_mixBorders_32 : decode cX2_mixBorders 32 = .ok (.aload_n 0, 1) := by decide +kernel
theorem dX2_mixBorders_33 : decode cX2_mixBorders 33 = .ok (.getfield 19, 3) := by decide +kernel
theorem dX2_mixBorders_36 : decode cX2_mixBorders 36 = .ok (.iload 5, 2) := by decide +kernel
theorem dX2_mixBorders_38 : decode cX2_mixBorders 38 = .ok (.iaload, 1) := by decide +kernel
theorem dX2_mixBorders_39 : decode cX2_mixBorders 39 = .ok (.aload_n 0, 1) := by decide +kernel
theorem dX2_mixBorders_40 : decode cX2_mixBorders 40 = .ok (.getfield 19, 3) := by decide +kernel
theorem dX2_mixBorders_43 : decode cX2_mixBorders 43 = .ok (.iload 4, 2) := by decide +kernel
theorem dX2_mixBorders_45 : decode cX2_mixBorders 45 = .ok (.iaload, 1) := by decide +kernel
theorem dX2_mixBorders_46 : decode cX2_mixBorders 46 = .ok (.if_icmp .eq 36, 3) := by decide +kernel
theorem dX2_mixBorders_49 : decode cX2_mixBorders 49 = .ok (.aload_n 0, 1) := by decide +kernel
theorem dX2_mixBorders_50 : decode cX2_mixBorders 50 = .ok (.iload 5, 2) := by decide +kernel
theorem dX2_mixBorders_52 : decode cX2_mixBorders 52 = .ok (.iload 4, 2) := by decide +kernel
theorem dX2_mixBorders_54 : decode cX2_mixBorders 54 = .ok (.aload_n 3, 1) := by decide +kernel
theorem dX2_mixBorders_55 : decode cX2_mixBorders 55 = .ok (.invokevirtual 49, 3) := by decide +kernel
theorem dX2_mixBorders_58 : decode cX2_mixBorders 58 = .ok (.istore 6, 2) := by decide +kernel
theorem dX2_mixBorders_60 : decode cX2_mixBorders 60 = .ok (.iload 6, 2) := by decide +kernel
theorem dX2_mixBorders_62 : decode cX2_mixBorders 62 = .ok (.iload_n 1, 1) := by decide +kernel
theorem dX2_mixBorders_63 : decode cX2_mixBorders 63 = .ok (.if_icmp .lt 19, 3) := by decide +kernel
theorem dX2_mixBorders_66 : decode cX2_mixBorders 66 = .ok (.iload 6, 2) := by decide +kernel
theorem dX2_mixBorders_68 : decode cX2_mixBorders 68 = .ok (.iload_n 2, 1) := by decide +kernel
theorem dX2_mixBorders_69 : decode cX2_mixBorders 69 = .ok (.if_icmp .ge 13, 3) := by decide +kernel
theorem dX2_mixBorders_72 : decode cX2_mixBorders 72 = .ok (.aload_n 0, 1) := by decide +kernel
theorem dX2_mixBorders_73 : decode cX2_mixBorders 73 = .ok (.iload 5, 2) := by decide +kernel
theorem dX2_mixBorders_75 : decode cX2_mixBorders 75 = .ok (.iload 4, 2) := by decide +kernel
theorem dX2_mixBorders_77 : decode cX2_mixBorders 77 = .ok (.iload 6, 2) := by decide +kernel
theorem dX2_mixBorders_79 : decode cX2_mixBorders 79 = .ok (.invokevirtual 53, 3) := by decide +kernel
theorem dX2_mixBorders_82 : decode cX2_mixBorders 82 = .ok (.iload 5, 2) := by decide +kernel
theorem dX2_mixBorders_84 : decode cX2_mixBorders 84 = .ok (.istore 4, 2) := by decide +kernel
theorem dX2_mixBorders_86 : decode cX2_mixBorders 86 = .ok (.iinc 5 (-1), 3) := by decide +kernel
theorem dX2_mixBorders_89 : decode cX2_mixBorders 89 = .ok (.goto (-81), 3) := by decide +kernel
theorem dX2_mixBorders_92 : decode cX2_mixBorders 92 = .ok (.return_, 1) := by decide +kernel
theorem dX2_farSide_0 : decode cX2_farSide 0 = .ok (.aload_n 3, 1) := by decide +kernel
theorem dX2_farSide_1 : decode cX2_farSide 1 = .ok (.aload_n 0, 1) := by decide +kernel
theorem dX2_farSide_2 : decode cX2_farSide 2 = .ok (.getfield 19, 3) := by decide +kernel
theorem dX2_farSide_5 : decode cX2_farSide 5 = .ok (.iload_n 1, 1) := by decide +kernel
theorem dX2_farSide_6 : decode cX2_farSide 6 = .ok (.iaload, 1) := by decide +kernel
theorem dX2_farSide_7 : decode cX2_farSide 7 = .ok (.aload_n 0, 1) := by decide +kernel
theorem dX2_farSide_8 : decode cX2_farSide 8 = .ok (.getfield 19, 3) := by decide +kernel
theorem dX2_farSide_11 : decode cX2_farSide 11 = .ok (.iload_n 2, 1) := by decide +kernel
theorem dX2_farSide_12 : decode cX2_farSide 12 = .ok (.iaload, 1) := by decide +kernel
theorem dX2_farSide_13 : decode cX2_farSide 13 = .ok (.invokevirtual 56, 3) := by decide +kernel
theorem dX2_farSide_16 : decode cX2_farSide 16 = .ok (.istore 4, 2) := by decide +kernel
theorem dX2_farSide_18 : decode cX2_farSide 18 = .ok (.iload 4, 2) := by decide +kernel
theorem dX2_farSide_20 : decode cX2_farSide 20 = .ok (.ifCond .ne 5, 3) := by decide +kernel
theorem dX2_farSide_23 : decode cX2_farSide 23 = .ok (.iconst (-1), 1) := by decide +kernel
theorem dX2_farSide_24 : decode cX2_farSide 24 = .ok (.ireturn, 1) := by decide +kernel
theorem dX2_farSide_25 : decode cX2_farSide 25 = .ok (.aload_n 0, 1) := by decide +kernel
theorem dX2_farSide_26 : decode cX2_farSide 26 = .ok (.getfield 25, 3) := by decide +kernel
theorem dX2_farSide_29 : decode cX2_farSide 29 = .ok (.iload_n 2, 1) := by decide +kernel
theorem dX2_farSide_30 : decode cX2_farSide 30 = .ok (.iaload, 1) := by decide +kernel
theorem dX2_farSide_31 : decode cX2_farSide 31 = .ok (.iload 4, 2) := by decide +kernel
theorem dX2_farSide_33 : decode cX2_farSide 33 = .ok (.if_icmp .ge 13, 3) := by decide +kernel
theorem dX2_farSide_36 : decode cX2_farSide 36 = .ok (.aload_n 0, 1) := by decide +kernel
theorem dX2_farSide_37 : decode cX2_farSide 37 = .ok (.getfield 25, 3) := by decide +kernel
theorem dX2_farSide_40 : decode cX2_farSide 40 = .ok (.iload_n 2, 1) := by decide +kernel
theorem dX2_farSide_41 : decode cX2_farSide 41 = .ok (.dup2, 1) := by decide +kernel
theorem dX2_farSide_42 : decode cX2_farSide 42 = .ok (.iaload, 1) := by decide +kernel
theorem dX2_farSide_43 : decode cX2_farSide 43 = .ok (.iconst 1, 1) := by decide +kernel
theorem dX2_farSide_44 : decode cX2_farSide 44 = .ok (.iadd, 1) := by decide +kernel
theorem dX2_farSide_45 : decode cX2_farSide 45 = .ok (.iastore, 1) := by decide +kernel
theorem dX2_farSide_46 : decode cX2_farSide 46 = .ok (.aload_n 0, 1) := by decide +kernel
theorem dX2_farSide_47 : decode cX2_farSide 47 = .ok (.getfield 25, 3) := by decide +kernel
theorem dX2_farSide_50 : decode cX2_farSide 50 = .ok (.iload_n 2, 1) := by decide +kernel
theorem dX2_farSide_51 : decode cX2_farSide 51 = .ok (.iaload, 1) := by decide +kernel
theorem dX2_farSide_52 : decode cX2_farSide 52 = .ok (.iload 4, 2) := by decide +kernel
theorem dX2_farSide_54 : decode cX2_farSide 54 = .ok (.if_icmp .ge 5, 3) := by decide +kernel
theorem dX2_farSide_57 : decode cX2_farSide 57 = .ok (.iconst (-1), 1) := by decide +kernel
theorem dX2_farSide_58 : decode cX2_farSide 58 = .ok (.ireturn, 1) := by decide +kernel
theorem dX2_farSide_59 : decode cX2_farSide 59 = .ok (.aload_n 0, 1) := by decide +kernel
theorem dX2_farSide_60 : decode cX2_farSide 60 = .ok (.iload_n 1, 1) := by decide +kernel
theorem dX2_farSide_61 : decode cX2_farSide 61 = .ok (.iload_n 2, 1) := by decide +kernel
theorem dX2_farSide_62 : decode cX2_farSide 62 = .ok (.invokevirtual 62, 3) := by decide +kernel
theorem dX2_farSide_65 : decode cX2_farSide 65 = .ok (.ifCond .eq 9, 3) := by decide +kernel
theorem dX2_farSide_68 : decode cX2_farSide 68 = .ok (.iload_n 1, 1) := by decide +kernel
theorem dX2_farSide_69 : decode cX2_farSide 69 = .ok (.iconst 1, 1) := by decide +kernel
theorem dX2_farSide_70 : decode cX2_farSide 70 = .ok (.isub, 1) := by decide +kernel
theorem dX2_farSide_71 : decode cX2_farSide 71 = .ok (.goto 6, 3) := by decide +kernel
theorem dX2_farSide_74 : decode cX2_farSide 74 = .ok (.iload_n 2, 1) := by decide +kernel
theorem dX2_farSide_75 : decode cX2_farSide 75 = .ok (.iconst 1, 1) := by decide +kernel
theorem dX2_farSide_76 : decode cX2_farSide 76 = .ok (.iadd, 1) := by decide +kernel
theorem dX2_farSide_77 : decode cX2_farSide 77 = .ok (.ireturn, 1) := by decide +kernel
theorem dX2_hindIsNext_0 : decode cX2_hindIsNext 0 = .ok (.iload_n 2, 1) := by decide +kernel
theorem dX2_hindIsNext_1 : decode cX2_hindIsNext 1 = .ok (.iload_n 1, 1) := by decide +kernel
theorem dX2_hindIsNext_2 : decode cX2_hindIsNext 2 = .ok (.isub, 1) := by decide +kernel
theorem dX2_hindIsNext_3 : decode cX2_hindIsNext 3 = .ok (.iconst 1, 1) := by decide +kernel
theorem dX2_hindIsNext_4 : decode cX2_hindIsNext 4 = .ok (.isub, 1) := by decide +kernel
theorem dX2_hindIsNext_5 : decode cX2_hindIsNext 5 = .ok (.istore_n 3, 1) := by decide +kernel
theorem dX2_hindIsNext_6 : decode cX2_hindIsNext 6 = .ok (.iload_n 3, 1) := by decide +kernel
theorem dX2_hindIsNext_7 : decode cX2_hindIsNext 7 = .ok (.iconst 2, 1) := by decide +kernel
theorem dX2_hindIsNext_8 : decode cX2_hindIsNext 8 = .ok (.irem, 1) := by decide +kernel
theorem dX2_hindIsNext_9 : decode cX2_hindIsNext 9 = .ok (.ifCond .ne 7, 3) := by decide +kernel
theorem dX2_hindIsNext_12 : decode cX2_hindIsNext 12 = .ok (.iconst 1, 1) := by decide +kernel
theorem dX2_hindIsNext_13 : decode cX2_hindIsNext 13 = .ok (.goto 4, 3) := by decide +kernel
theorem dX2_hindIsNext_16 : decode cX2_hindIsNext 16 = .ok (.iconst 0, 1) := by decide +kernel
theorem dX2_hindIsNext_17 : decode cX2_hindIsNext 17 = .ok (.ireturn, 1) := by decide +kernel
theorem dX2_mixOne_0 : decode cX2_mixOne 0 = .ok (.aload_n 0, 1) := by decide +kernel
theorem dX2_mixOne_1 : decode cX2_mixOne 1 = .ok (.iload_n 1, 1) := by decide +kernel
theorem dX2_mixOne_2 : decode cX2_mixOne 2 = .ok (.iload_n 2, 1) := by decide +kernel
theorem dX2_mixOne_3 : decode cX2_mixOne 3 = .ok (.invokevirtual 62, 3) := by decide +kernel
theorem dX2_mixOne_6 : decode cX2_mixOne 6 = .ok (.istore 4, 2) := by decide +kernel
theorem dX2_mixOne_8 : decode cX2_mixOne 8 = .ok (.iload 4, 2) := by decide +kernel
theorem dX2_mixOne_10 : decode cX2_mixOne 10 = .ok (.ifCond .eq 7, 3) := by decide +kernel
theorem dX2_mixOne_13 : decode cX2_mixOne 13 = .ok (.iload_n 1, 1) := by decide +kernel
theorem dX2_mixOne_14 : decode cX2_mixOne 14 = .ok (.goto 4, 3) := by decide +kernel
theorem dX2_mixOne_17 : decode cX2_mixOne 17 = .ok (.iload_n 2, 1) := by decide +kernel
theorem dX2_mixOne_18 : decode cX2_mixOne 18 = .ok (.istore 5, 2) := by decide +kernel
theorem dX2_mixOne_20 : decode cX2_mixOne 20 = .ok (.aload_n 0, 1) := by decide +kernel
theorem dX2_mixOne_21 : decode cX2_mixOne 21 = .ok (.iload_n 3, 1) := by decide +kernel
theorem dX2_mixOne_22 : decode cX2_mixOne 22 = .ok (.invokevirtual 38, 3) := by decide +kernel
theorem dX2_mixOne_25 : decode cX2_mixOne 25 = .ok (.ifCond .eq 19, 3) := by decide +kernel
theorem dX2_mixOne_28 : decode cX2_mixOne 28 = .ok (.aload_n 0, 1) := by decide +kernel
theorem dX2_mixOne_29 : decode cX2_mixOne 29 = .ok (.getfield 15, 3) := by decide +kernel
theorem dX2_mixOne_32 : decode cX2_mixOne 32 = .ok (.iload_n 3, 1) := by decide +kernel
theorem dX2_mixOne_33 : decode cX2_mixOne 33 = .ok (.iaload, 1) := by decide +kernel
theorem dX2_mixOne_34 : decode cX2_mixOne 34 = .ok (.aload_n 0, 1) := by decide +kernel
theorem dX2_mixOne_35 : decode cX2_mixOne 35 = .ok (.getfield 15, 3) := by decide +kernel
theorem dX2_mixOne_38 : decode cX2_mixOne 38 = .ok (.iload 5, 2) := by decide +kernel
theorem dX2_mixOne_40 : decode cX2_mixOne 40 = .ok (.iaload, 1) := by decide +kernel
theorem dX2_mixOne_41 : decode cX2_mixOne 41 = .ok (.if_icmp .eq 4, 3) := by decide +kernel
theorem dX2_mixOne_44 : decode cX2_mixOne 44 = .ok (.return_, 1) := by decide +kernel
theorem dX2_mixOne_45 : decode cX2_mixOne 45 = .ok (.aload_n 0, 1) := by decide +kernel
theorem dX2_mixOne_46 : decode cX2_mixOne 46 = .ok (.getfield 19, 3) := by decide +kernel
theorem dX2_mixOne_49 : decode cX2_mixOne 49 = .ok (.iload_n 1, 1) := by decide +kernel
theorem dX2_mixOne_50 : decode cX2_mixOne 50 = .ok (.iaload, 1) := by decide +kernel
theorem dX2_mixOne_51 : decode cX2_mixOne 51 = .ok (.istore 6, 2) := by decide +kernel
theorem dX2_mixOne_53 : decode cX2_mixOne 53 = .ok (.aload_n 0, 1) := by decide +kernel
theorem dX2_mixOne_54 : decode cX2_mixOne 54 = .ok (.getfield 19, 3) := by decide +kernel
theorem dX2_mixOne_57 : decode cX2_mixOne 57 = .ok (.iload_n 2, 1) := by decide +kernel
theorem dX2_mixOne_58 : decode cX2_mixOne 58 = .ok (.iaload, 1) := by decide +kernel
theorem dX2_mixOne_59 : decode cX2_mixOne 59 = .ok (.istore 7, 2) := by decide +kernel
theorem dX2_mixOne_61 : decode cX2_mixOne 61 = .ok (.aload_n 0, 1) := by decide +kernel
theorem dX2_mixOne_62 : decode cX2_mixOne 62 = .ok (.getfield 19, 3) := by decide +kernel
theorem dX2_mixOne_65 : decode cX2_mixOne 65 = .ok (.iload 5, 2) := by decide +kernel
theorem dX2_mixOne_67 : decode cX2_mixOne 67 = .ok (.iload 6, 2) := by decide +kernel
theorem dX2_mixOne_69 : decode cX2_mixOne 69 = .ok (.iastore, 1) := by decide +kernel
theorem dX2_mixOne_70 : decode cX2_mixOne 70 = .ok (.aload_n 0, 1) := by decide +kernel
theorem dX2_mixOne_71 : decode cX2_mixOne 71 = .ok (.getfield 22, 3) := by decide +kernel
theorem dX2_mixOne_74 : decode cX2_mixOne 74 = .ok (.iload 5, 2) := by decide +kernel
theorem dX2_mixOne_76 : decode cX2_mixOne 76 = .ok (.iload 7, 2) := by decide +kernel
theorem dX2_mixOne_78 : decode cX2_mixOne 78 = .ok (.iastore, 1) := by decide +kernel
theorem dX2_mixOne_79 : decode cX2_mixOne 79 = .ok (.aload_n 0, 1) := by decide +kernel
theorem dX2_mixOne_80 : decode cX2_mixOne 80 = .ok (.getfield 25, 3) := by decide +kernel
theorem dX2_mixOne_83 : decode cX2_mixOne 83 = .ok (.iload 4, 2) := by decide +kernel
theorem dX2_mixOne_85 : decode cX2_mixOne 85 = .ok (.ifCond .eq 7, 3) := by decide +kernel
theorem dX2_mixOne_88 : decode cX2_mixOne 88 = .ok (.iload_n 2, 1) := by decide +kernel
theorem dX2_mixOne_89 : decode cX2_mixOne 89 = .ok (.goto 4, 3) := by decide +kernel
theorem dX2_mixOne_92 : decode cX2_mixOne 92 = .ok (.iload_n 3, 1) := by decide +kernel
theorem dX2_mixOne_93 : decode cX2_mixOne 93 = .ok (.iconst 0, 1) := by decide +kernel
theorem dX2_mixOne_94 : decode cX2_mixOne 94 = .ok (.iastore, 1) := by decide +kernel
theorem dX2_mixOne_95 : decode cX2_mixOne 95 = .ok (.return_, 1) := by decide +kernel
theorem dX2_clashesAt_0 : decode cX2_clashesAt 0 = .ok (.aload_n 0, 1) := by decide +kernel
theorem dX2_clashesAt_1 : decode cX2_clashesAt 1 = .ok (.iload_n 1, 1) := by decide +kernel
theorem dX2_clashesAt_2 : decode cX2_clashesAt 2 = .ok (.invokevirtual 42, 3) := by decide +kernel
theorem dX2_clashesAt_5 : decode cX2_clashesAt 5 = .ok (.istore_n 3, 1) := by decide +kernel
theorem dX2_clashesAt_6 : decode cX2_clashesAt 6 = .ok (.aload_n 0, 1) := by decide +kernel
theorem dX2_clashesAt_7 : decode cX2_clashesAt 7 = .ok (.iload_n 1, 1) := by decide +kernel
theorem dX2_clashesAt_8 : decode cX2_clashesAt 8 = .ok (.invokevirtual 66, 3) := by decide +kernel
theorem dX2_clashesAt_11 : decode cX2_clashesAt 11 = .ok (.istore 4, 2) := by decide +kernel
theorem dX2_clashesAt_13 : decode cX2_clashesAt 13 = .ok (.aload_n 0, 1) := by decide +kernel
theorem dX2_clashesAt_14 : decode cX2_clashesAt 14 = .ok (.iload_n 1, 1) := by decide +kernel
theorem dX2_clashesAt_15 : decode cX2_clashesAt 15 = .ok (.invokevirtual 38, 3) := by decide +kernel
theorem dX2_clashesAt_18 : decode cX2_clashesAt 18 = .ok (.ifCond .ne 12, 3) := by decide +kernel
theorem dX2_clashesAt_21 : decode cX2_clashesAt 21 = .ok (.aload_n 0, 1) := by decide +kernel
theorem dX2_clashesAt_22 : decode cX2_clashesAt 22 = .ok (.iload_n 3, 1) := by decide +kernel
theorem dX2_clashesAt_23 : decode cX2_clashesAt 23 = .ok (.iload 4, 2) := by decide +kernel
theorem dX2_clashesAt_25 : decode cX2_clashesAt 25 = .ok (.aload_n 2, 1) := by decide +kernel
theorem dX2_clashesAt_26 : decode cX2_clashesAt 26 = .ok (.invokevirtual 69, 3) := by decide +kernel
theorem dX2_clashesAt_29 : decode cX2_clashesAt 29 = .ok (.ireturn, 1) := by decide +kernel
theorem dX2_clashesAt_30 : decode cX2_clashesAt 30 = .ok (.aload_n 0, 1) := by decide +kernel
theorem dX2_clashesAt_31 : decode cX2_clashesAt 31 = .ok (.iload_n 3, 1) := by decide +kernel
theorem dX2_clashesAt_32 : decode cX2_clashesAt 32 = .ok (.iload_n 1, 1) := by decide +kernel
theorem dX2_clashesAt_33 : decode cX2_clashesAt 33 = .ok (.aload_n 2, 1) := by decide +kernel
theorem dX2_clashesAt_34 : decode cX2_clashesAt 34 = .ok (.invokevirtual 69, 3) := by decide +kernel
theorem dX2_clashesAt_37 : decode cX2_clashesAt 37 = .ok (.ifCond .ne 14, 3) := by decide +kernel
theorem dX2_clashesAt_40 : decode cX2_clashesAt 40 = .ok (.aload_n 0, 1) := by decide +kernel
theorem dX2_clashesAt_41 : decode cX2_clashesAt 41 = .ok (.iload_n 1, 1) := by decide +kernel
theorem dX2_clashesAt_42 : decode cX2_clashesAt 42 = .ok (.iload 4, 2) := by decide +kernel
theorem dX2_clashesAt_44 : decode cX2_clashesAt 44 = .ok (.aload_n 2, 1) := by decide +kernel
theorem dX2_clashesAt_45 : decode cX2_clashesAt 45 = .ok (.invokevirtual 69, 3) := by decide +kernel
theorem dX2_clashesAt_48 : decode cX2_clashesAt 48 = .ok (.ifCond .eq 7, 3) := by decide +kernel
theorem dX2_clashesAt_51 : decode cX2_clashesAt 51 = .ok (.iconst 1, 1) := by decide +kernel
theorem dX2_clashesAt_52 : decode cX2_clashesAt 52 = .ok (.goto 4, 3) := by decide +kernel
theorem dX2_clashesAt_55 : decode cX2_clashesAt 55 = .ok (.iconst 0, 1) := by decide +kernel
theorem dX2_clashesAt_56 : decode cX2_clashesAt 56 = .ok (.ireturn, 1) := by decide +kernel
theorem dX2_clash_0 : decode cX2_clash 0 = .ok (.iload_n 1, 1) := by decide +kernel
theorem dX2_clash_1 : decode cX2_clash 1 = .ok (.iconst (-1), 1) := by decide +kernel
theorem dX2_clash_2 : decode cX2_clash 2 = .ok (.if_icmp .eq 31, 3) := by decide +kernel
theorem dX2_clash_5 : decode cX2_clash 5 = .ok (.iload_n 2, 1) := by decide +kernel
theorem dX2_clash_6 : decode cX2_clash 6 = .ok (.iconst (-1), 1) := by decide +kernel
theorem dX2_clash_7 : decode cX2_clash 7 = .ok (.if_icmp .eq 26, 3) := by decide +kernel
theorem dX2_clash_10 : decode cX2_clash 10 = .ok (.aload_n 3, 1) := by decide +kernel
theorem dX2_clash_11 : decode cX2_clash 11 = .ok (.aload_n 0, 1) := by decide +kernel
theorem dX2_clash_12 : decode cX2_clash 12 = .ok (.getfield 19, 3) := by decide +kernel
theorem dX2_clash_15 : decode cX2_clash 15 = .ok (.iload_n 1, 1) := by decide +kernel
theorem dX2_clash_16 : decode cX2_clash 16 = .ok (.iaload, 1) := by decide +kernel
theorem dX2_clash_17 : decode cX2_clash 17 = .ok (.aload_n 0, 1) := by decide +kernel
theorem dX2_clash_18 : decode cX2_clash 18 = .ok (.getfield 19, 3) := by decide +kernel
theorem dX2_clash_21 : decode cX2_clash 21 = .ok (.iload_n 2, 1) := by decide +kernel
theorem dX2_clash_22 : decode cX2_clash 22 = .ok (.iaload, 1) := by decide +kernel
theorem dX2_clash_23 : decode cX2_clash 23 = .ok (.invokevirtual 73, 3) := by decide +kernel
theorem dX2_clash_26 : decode cX2_clash 26 = .ok (.ifCond .ne 7, 3) := by decide +kernel
theorem dX2_clash_29 : decode cX2_clash 29 = .ok (.iconst 1, 1) := by decide +kernel
theorem dX2_clash_30 : decode cX2_clash 30 = .ok (.goto 4, 3) := by decide +kernel
theorem dX2_clash_33 : decode cX2_clash 33 = .ok (.iconst 0, 1) := by decide +kernel
theorem dX2_clash_34 : decode cX2_clash 34 = .ok (.ireturn, 1) := by decide +kernel
theorem dX3_init_0 : decode cX3_init 0 = .ok (.aload_n 0, 1) := by decide +kernel
theorem dX3_init_1 : decode cX3_init 1 = .ok (.invokespecial 1, 3) := by decide +kernel
theorem dX3_init_4 : decode cX3_init 4 = .ok (.aload_n 0, 1) := by decide +kernel
theorem dX3_init_5 : decode cX3_init 5 = .ok (.iconst 0, 1) := by decide +kernel
theorem dX3_init_6 : decode cX3_init 6 = .ok (.putfield 7, 3) := by decide +kernel
theorem dX3_init_9 : decode cX3_init 9 = .ok (.aload_n 0, 1) := by decide +kernel
theorem dX3_init_10 : decode cX3_init 10 = .ok (.iconst 0, 1) := by decide +kernel
theorem dX3_init_11 : decode cX3_init 11 = .ok (.putfield 13, 3) := by decide +kernel
theorem dX3_init_14 : decode cX3_init 14 = .ok (.aload_n 0, 1) := by decide +kernel
theorem dX3_init_15 : decode cX3_init 15 = .ok (.iconst 0, 1) := by decide +kernel
theorem dX3_init_16 : decode cX3_init 16 = .ok (.putfield 16, 3) := by decide +kernel
theorem dX3_init_19 : decode cX3_init 19 = .ok (.aload_n 0, 1) := by decide +kernel
theorem dX3_init_20 : decode cX3_init 20 = .ok (.iconst 0, 1) := by decide +kernel
theorem dX3_init_21 : decode cX3_init 21 = .ok (.putfield 19, 3) := by decide +kernel
theorem dX3_init_24 : decode cX3_init 24 = .ok (.aload_n 0, 1) := by decide +kernel
theorem dX3_init_25 : decode cX3_init 25 = .ok (.iconst 0, 1) := by decide +kernel
theorem dX3_init_26 : decode cX3_init 26 = .ok (.putfield 22, 3) := by decide +kernel
theorem dX3_init_29 : decode cX3_init 29 = .ok (.return_, 1) := by decide +kernel
theorem dX3_set_0 : decode cX3_set 0 = .ok (.aload_n 0, 1) := by decide +kernel
theorem dX3_set_1 : decode cX3_set 1 = .ok (.iload_n 3, 1) := by decide +kernel
theorem dX3_set_2 : decode cX3_set 2 = .ok (.putfield 7, 3) := by decide +kernel
theorem dX3_set_5 : decode cX3_set 5 = .ok (.aload_n 0, 1) := by decide +kernel
theorem dX3_set_6 : decode cX3_set 6 = .ok (.iload_n 1, 1) := by decide +kernel
theorem dX3_set_7 : decode cX3_set 7 = .ok (.iload_n 3, 1) := by decide +kernel
theorem dX3_set_8 : decode cX3_set 8 = .ok (.invokestatic 25, 3) := by decide +kernel
theorem dX3_set_11 : decode cX3_set 11 = .ok (.putfield 13, 3) := by decide +kernel
theorem dX3_set_14 : decode cX3_set 14 = .ok (.aload_n 0, 1) := by decide +kernel
theorem dX3_set_15 : decode cX3_set 15 = .ok (.iload_n 2, 1) := by decide +kernel
theorem dX3_set_16 : decode cX3_set 16 = .ok (.putfield 16, 3) := by decide +kernel
theorem dX3_set_19 : decode cX3_set 19 = .ok (.aload_n 0, 1) := by decide +kernel
theorem dX3_set_20 : decode cX3_set 20 = .ok (.aload 4, 2) := by decide +kernel
theorem dX3_set_22 : decode cX3_set 22 = .ok (.getfield 31, 3) := by decide +kernel
theorem dX3_set_25 : decode cX3_set 25 = .ok (.iload_n 1, 1) := by decide +kernel
theorem dX3_set_26 : decode cX3_set 26 = .ok (.iaload, 1) := by decide +kernel
theorem dX3_set_27 : decode cX3_set 27 = .ok (.putfield 19, 3) := by decide +kernel
theorem dX3_set_30 : decode cX3_set 30 = .ok (.aload_n 0, 1) := by decide +kernel
theorem dX3_set_31 : decode cX3_set 31 = .ok (.aload 4, 2) := by decide +kernel
theorem dX3_set_33 : decode cX3_set 33 = .ok (.getfield 31, 3) := by decide +kernel
theorem dX3_set_36 : decode cX3_set 36 = .ok (.iload_n 2, 1) := by decide +kernel
theorem dX3_set_37 : decode cX3_set 37 = .ok (.iaload, 1) := by decide +kernel
theorem dX3_set_38 : decode cX3_set 38 = .ok (.putfield 22, 3) := by decide +kernel
theorem dX3_set_41 : decode cX3_set 41 = .ok (.return_, 1) := by decide +kernel
theorem dX4_init_0 : decode cX4_init 0 = .ok (.aload_n 0, 1) := by decide +kernel
theorem dX4_init_1 : decode cX4_init 1 = .ok (.invokespecial 3, 3) := by decide +kernel
theorem dX4_init_4 : decode cX4_init 4 = .ok (.aload_n 0, 1) := by decide +kernel
theorem dX4_init_5 : decode cX4_init 5 = .ok (.bipush 48, 2) := by decide +kernel
theorem dX4_init_7 : decode cX4_init 7 = .ok (.newarray .int, 2) := by decide +kernel
theorem dX4_init_9 : decode cX4_init 9 = .ok (.putfield 9, 3) := by decide +kernel
theorem dX4_init_12 : decode cX4_init 12 = .ok (.aload_n 0, 1) := by decide +kernel
theorem dX4_init_13 : decode cX4_init 13 = .ok (.bipush 48, 2) := by decide +kernel
theorem dX4_init_15 : decode cX4_init 15 = .ok (.newarray .int, 2) := by decide +kernel
theorem dX4_init_17 : decode cX4_init 17 = .ok (.putfield 15, 3) := by decide +kernel
theorem dX4_init_20 : decode cX4_init 20 = .ok (.aload_n 0, 1) := by decide +kernel
theorem dX4_init_21 : decode cX4_init 21 = .ok (.bipush 48, 2) := by decide +kernel
theorem dX4_init_23 : decode cX4_init 23 = .ok (.newarray .int, 2) := by decide +kernel
theorem dX4_init_25 : decode cX4_init 25 = .ok (.putfield 18, 3) := by decide +kernel
theorem dX4_init_28 : decode cX4_init 28 = .ok (.aload_n 0, 1) := by decide +kernel
theorem dX4_init_29 : decode cX4_init 29 = .ok (.bipush 6, 2) := by decide +kernel
theorem dX4_init_31 : decode cX4_init 31 = .ok (.newarray .int, 2) := by decide +kernel
theorem dX4_init_33 : decode cX4_init 33 = .ok (.putfield 21, 3) := by decide +kernel
theorem dX4_init_36 : decode cX4_init 36 = .ok (.return_, 1) := by decide +kernel
theorem dX4_clear_0 : decode cX4_clear 0 = .ok (.aload_n 0, 1) := by decide +kernel
theorem dX4_clear_1 : decode cX4_clear 1 = .ok (.getfield 21, 3) := by decide +kernel
theorem dX4_clear_4 : decode cX4_clear 4 = .ok (.iconst 0, 1) := by decide +kernel
theorem dX4_clear_5 : decode cX4_clear 5 = .ok (.invokestatic 24, 3) := by decide +kernel
theorem dX4_clear_8 : decode cX4_clear 8 = .ok (.return_, 1) := by decide +kernel
theorem dX4_copyFrom_0 : decode cX4_copyFrom 0 = .ok (.aload_n 1, 1) := by decide +kernel
theorem dX4_copyFrom_1 : decode cX4_copyFrom 1 = .ok (.getfield 9, 3) := by decide +kernel
theorem dX4_copyFrom_4 : decode cX4_copyFrom 4 = .ok (.iconst 0, 1) := by decide +kernel
theorem dX4_copyFrom_5 : decode cX4_copyFrom 5 = .ok (.aload_n 0, 1) := by decide +kernel
theorem dX4_copyFrom_6 : decode cX4_copyFrom 6 = .ok (.getfield 9, 3) := by decide +kernel
theorem dX4_copyFrom_9 : decode cX4_copyFrom 9 = .ok (.iconst 0, 1) := by decide +kernel
theorem dX4_copyFrom_10 : decode cX4_copyFrom 10 = .ok (.bipush 48, 2) := by decide +kernel
theorem dX4_copyFrom_12 : decode cX4_copyFrom 12 = .ok (.invokestatic 30, 3) := by decide +kernel
theorem dX4_copyFrom_15 : decode cX4_copyFrom 15 = .ok (.aload_n 1, 1) := by decide +kernel
theorem dX4_copyFrom_16 : decode cX4_copyFrom 16 = .ok (.getfield 15, 3) := by decide +kernel
theorem dX4_copyFrom_19 : decode cX4_copyFrom 19 = .ok (.iconst 0, 1) := by decide +kernel
theorem dX4_copyFrom_20 : decode cX4_copyFrom 20 = .ok (.aload_n 0, 1) := by decide +kernel
theorem dX4_copyFrom_21 : decode cX4_copyFrom 21 = .ok (.getfield 15, 3) := by decide +kernel
theorem dX4_copyFrom_24 : decode cX4_copyFrom 24 = .ok (.iconst 0, 1) := by decide +kernel
theorem dX4_copyFrom_25 : decode cX4_copyFrom 25 = .ok (.bipush 48, 2) := by decide +kernel
theorem dX4_copyFrom_27 : decode cX4_copyFrom 27 = .ok (.invokestatic 30, 3) := by decide +kernel
theorem dX4_copyFrom_30 : decode cX4_copyFrom 30 = .ok (.aload_n 1, 1) := by decide +kernel
theorem dX4_copyFrom_31 : decode cX4_copyFrom 31 = .ok (.getfield 18, 3) := by decide +kernel
theorem dX4_copyFrom_34 : decode cX4_copyFrom 34 = .ok (.iconst 0, 1) := by decide +kernel
theorem dX4_copyFrom_35 : decode cX4_copyFrom 35 = .ok (.aload_n 0, 1) := by decide +kernel
theorem dX4_copyFrom_36 : decode cX4_copyFrom 36 = .ok (.getfield 18, 3) := by decide +kernel
theorem dX4_copyFrom_39 : decode cX4_copyFrom 39 = .ok (.iconst 0, 1) := by decide +kernel
theorem dX4_copyFrom_40 : decode cX4_copyFrom 40 = .ok (.bipush 48, 2) := by decide +kernel
theorem dX4_copyFrom_42 : decode cX4_copyFrom 42 = .ok (.invokestatic 30, 3) := by decide +kernel
theorem dX4_copyFrom_45 : decode cX4_copyFrom 45 = .ok (.aload_n 1, 1) := by decide +kernel
theorem dX4_copyFrom_46 : decode cX4_copyFrom 46 = .ok (.getfield 21, 3) := by decide +kernel
theorem dX4_copyFrom_49 : decode cX4_copyFrom 49 = .ok (.iconst 0, 1) := by decide +kernel
theorem dX4_copyFrom_50 : decode cX4_copyFrom 50 = .ok (.aload_n 0, 1) := by decide +kernel
theorem dX4_copyFrom_51 : decode cX4_copyFrom 51 = .ok (.getfield 21, 3) := by decide +kernel
theorem dX4_copyFrom_54 : decode cX4_copyFrom 54 = .ok (.iconst 0, 1) := by decide +kernel
theorem dX4_copyFrom_55 : decode cX4_copyFrom 55 = .ok (.bipush 6, 2) := by decide +kernel
theorem dX4_copyFrom_57 : decode cX4_copyFrom 57 = .ok (.invokestatic 30, 3) := by decide +kernel
theorem dX4_copyFrom_60 : decode cX4_copyFrom 60 = .ok (.return_, 1) := by decide +kernel
theorem dX4_fill_0 : decode cX4_fill 0 = .ok (.aload_n 0, 1) := by decide +kernel
theorem dX4_fill_1 : decode cX4_fill 1 = .ok (.getfield 9, 3) := by decide +kernel
theorem dX4_fill_4 : decode cX4_fill 4 = .ok (.iload_n 1, 1) := by decide +kernel
theorem dX4_fill_5 : decode cX4_fill 5 = .ok (.iload_n 2, 1) := by decide +kernel
theorem dX4_fill_6 : decode cX4_fill 6 = .ok (.iastore, 1) := by decide +kernel
theorem dX4_fill_7 : decode cX4_fill 7 = .ok (.aload_n 0, 1) := by decide +kernel
theorem dX4_fill_8 : decode cX4_fill 8 = .ok (.getfield 15, 3) := by decide +kernel
theorem dX4_fill_11 : decode cX4_fill 11 = .ok (.iload_n 1, 1) := by decide +kernel
theorem dX4_fill_12 : decode cX4_fill 12 = .ok (.iconst 0, 1) := by decide +kernel
theorem dX4_fill_13 : decode cX4_fill 13 = .ok (.iastore, 1) := by decide +kernel
theorem dX4_fill_14 : decode cX4_fill 14 = .ok (.aload_n 0, 1) := by decide +kernel
end
section
theorem dX4_fill_15 : decode cX4_fill 15 = .ok (.getfield 18, 3) := by decide +kernel
theorem dX4_fill_18 : decode cX4_fill 18 = .ok (.iload_n 1, 1) := by decide +kernel
theorem dX4_fill_19 : decode cX4_fill 19 = .ok (.iconst 0, 1) := by decide +kernel
theorem dX4_fill_20 : decode cX4_fill 20 = .ok (.iastore, 1) := by decide +kernel
theorem dX4_fill_21 : decode cX4_fill 21 = .ok (.return_, 1) := by decide +kernel
theorem dX4_bearsForeign_0 : decode cX4_bearsForeign 0 = .ok (.aload_n 0, 1) := by decide +kernel
theorem dX4_bearsForeign_1 : decode cX4_bearsForeign 1 = .ok (.getfield 15, 3) := by decide +kernel
theorem dX4_bearsForeign_4 : decode cX4_bearsForeign 4 = .ok (.iload_n 1, 1) := by decide +kernel
theorem dX4_bearsForeign_5 : decode cX4_bearsForeign 5 = .ok (.iaload, 1) := by decide +kernel
theorem dX4_bearsForeign_6 : decode cX4_bearsForeign 6 = .ok (.iconst 1, 1) := by decide +kernel
theorem dX4_bearsForeign_7 : decode cX4_bearsForeign 7 = .ok (.iadd, 1) := by decide +kernel
theorem dX4_bearsForeign_8 : decode cX4_bearsForeign 8 = .ok (.bipush 100, 2) := by decide +kernel
theorem dX4_bearsForeign_10 : decode cX4_bearsForeign 10 = .ok (.imul, 1) := by decide +kernel
theorem dX4_bearsForeign_11 : decode cX4_bearsForeign 11 = .ok (.iload_n 2, 1) := by decide +kernel
theorem dX4_bearsForeign_12 : decode cX4_bearsForeign 12 = .ok (.aload_n 0, 1) := by decide +kernel
theorem dX4_bearsForeign_13 : decode cX4_bearsForeign 13 = .ok (.getfield 9, 3) := by decide +kernel
theorem dX4_bearsForeign_16 : decode cX4_bearsForeign 16 = .ok (.iload_n 1, 1) := by decide +kernel
theorem dX4_bearsForeign_17 : decode cX4_bearsForeign 17 = .ok (.iaload, 1) := by decide +kernel
theorem dX4_bearsForeign_18 : decode cX4_bearsForeign 18 = .ok (.iconst 1, 1) := by decide +kernel
theorem dX4_bearsForeign_19 : decode cX4_bearsForeign 19 = .ok (.iadd, 1) := by decide +kernel
theorem dX4_bearsForeign_20 : decode cX4_bearsForeign 20 = .ok (.imul, 1) := by decide +kernel
theorem dX4_bearsForeign_21 : decode cX4_bearsForeign 21 = .ok (.if_icmp .gt 7, 3) := by decide +kernel
theorem dX4_bearsForeign_24 : decode cX4_bearsForeign 24 = .ok (.iconst 1, 1) := by decide +kernel
theorem dX4_bearsForeign_25 : decode cX4_bearsForeign 25 = .ok (.goto 4, 3) := by decide +kernel
theorem dX4_bearsForeign_28 : decode cX4_bearsForeign 28 = .ok (.iconst 0, 1) := by decide +kernel
theorem dX4_bearsForeign_29 : decode cX4_bearsForeign 29 = .ok (.ireturn, 1) := by decide +kernel
theorem dX4_putOne_0 : decode cX4_putOne 0 = .ok (.aload_n 0, 1) := by decide +kernel
theorem dX4_putOne_1 : decode cX4_putOne 1 = .ok (.getfield 9, 3) := by decide +kernel
theorem dX4_putOne_4 : decode cX4_putOne 4 = .ok (.iload_n 1, 1) := by decide +kernel
theorem dX4_putOne_5 : decode cX4_putOne 5 = .ok (.dup2, 1) := by decide +kernel
theorem dX4_putOne_6 : decode cX4_putOne 6 = .ok (.iaload, 1) := by decide +kernel
theorem dX4_putOne_7 : decode cX4_putOne 7 = .ok (.iconst 1, 1) := by decide +kernel
theorem dX4_putOne_8 : decode cX4_putOne 8 = .ok (.iadd, 1) := by decide +kernel
theorem dX4_putOne_9 : decode cX4_putOne 9 = .ok (.iastore, 1) := by decide +kernel
theorem dX4_putOne_10 : decode cX4_putOne 10 = .ok (.aload_n 0, 1) := by decide +kernel
theorem dX4_putOne_11 : decode cX4_putOne 11 = .ok (.getfield 18, 3) := by decide +kernel
theorem dX4_putOne_14 : decode cX4_putOne 14 = .ok (.iload_n 1, 1) := by decide +kernel
theorem dX4_putOne_15 : decode cX4_putOne 15 = .ok (.dup2, 1) := by decide +kernel
theorem dX4_putOne_16 : decode cX4_putOne 16 = .ok (.iaload, 1) := by decide +kernel
theorem dX4_putOne_17 : decode cX4_putOne 17 = .ok (.iconst 1, 1) := by decide +kernel
theorem dX4_putOne_18 : decode cX4_putOne 18 = .ok (.iadd, 1) := by decide +kernel
theorem dX4_putOne_19 : decode cX4_putOne 19 = .ok (.iastore, 1) := by decide +kernel
theorem dX4_putOne_20 : decode cX4_putOne 20 = .ok (.iload_n 2, 1) := by decide +kernel
theorem dX4_putOne_21 : decode cX4_putOne 21 = .ok (.ifCond .eq 13, 3) := by decide +kernel
theorem dX4_putOne_24 : decode cX4_putOne 24 = .ok (.aload_n 0, 1) := by decide +kernel
theorem dX4_putOne_25 : decode cX4_putOne 25 = .ok (.getfield 15, 3) := by decide +kernel
theorem dX4_putOne_28 : decode cX4_putOne 28 = .ok (.iload_n 1, 1) := by decide +kernel
theorem dX4_putOne_29 : decode cX4_putOne 29 = .ok (.dup2, 1) := by decide +kernel
theorem dX4_putOne_30 : decode cX4_putOne 30 = .ok (.iaload, 1) := by decide +kernel
theorem dX4_putOne_31 : decode cX4_putOne 31 = .ok (.iconst 1, 1) := by decide +kernel
theorem dX4_putOne_32 : decode cX4_putOne 32 = .ok (.iadd, 1) := by decide +kernel
theorem dX4_putOne_33 : decode cX4_putOne 33 = .ok (.iastore, 1) := by decide +kernel
theorem dX4_putOne_34 : decode cX4_putOne 34 = .ok (.return_, 1) := by decide +kernel
theorem dX4_takeOne_0 : decode cX4_takeOne 0 = .ok (.aload_n 0, 1) := by decide +kernel
theorem dX4_takeOne_1 : decode cX4_takeOne 1 = .ok (.getfield 9, 3) := by decide +kernel
theorem dX4_takeOne_4 : decode cX4_takeOne 4 = .ok (.iload_n 1, 1) := by decide +kernel
theorem dX4_takeOne_5 : decode cX4_takeOne 5 = .ok (.dup2, 1) := by decide +kernel
theorem dX4_takeOne_6 : decode cX4_takeOne 6 = .ok (.iaload, 1) := by decide +kernel
theorem dX4_takeOne_7 : decode cX4_takeOne 7 = .ok (.iconst 1, 1) := by decide +kernel
theorem dX4_takeOne_8 : decode cX4_takeOne 8 = .ok (.isub, 1) := by decide +kernel
theorem dX4_takeOne_9 : decode cX4_takeOne 9 = .ok (.iastore, 1) := by decide +kernel
theorem dX4_takeOne_10 : decode cX4_takeOne 10 = .ok (.aload_n 0, 1) := by decide +kernel
theorem dX4_takeOne_11 : decode cX4_takeOne 11 = .ok (.getfield 15, 3) := by decide +kernel
theorem dX4_takeOne_14 : decode cX4_takeOne 14 = .ok (.iload_n 1, 1) := by decide +kernel
theorem dX4_takeOne_15 : decode cX4_takeOne 15 = .ok (.aload_n 0, 1) := by decide +kernel
theorem dX4_takeOne_16 : decode cX4_takeOne 16 = .ok (.getfield 15, 3) := by decide +kernel
theorem dX4_takeOne_19 : decode cX4_takeOne 19 = .ok (.iload_n 1, 1) := by decide +kernel
theorem dX4_takeOne_20 : decode cX4_takeOne 20 = .ok (.iaload, 1) := by decide +kernel
theorem dX4_takeOne_21 : decode cX4_takeOne 21 = .ok (.aload_n 0, 1) := by decide +kernel
theorem dX4_takeOne_22 : decode cX4_takeOne 22 = .ok (.getfield 9, 3) := by decide +kernel
theorem dX4_takeOne_25 : decode cX4_takeOne 25 = .ok (.iload_n 1, 1) := by decide +kernel
theorem dX4_takeOne_26 : decode cX4_takeOne 26 = .ok (.iaload, 1) := by decide +kernel
theorem dX4_takeOne_27 : decode cX4_takeOne 27 = .ok (.invokestatic 36, 3) := by decide +kernel
theorem dX4_takeOne_30 : decode cX4_takeOne 30 = .ok (.iastore, 1) := by decide +kernel
theorem dX4_takeOne_31 : decode cX4_takeOne 31 = .ok (.return_, 1) := by decide +kernel
theorem dX4_slopOfAll_0 : decode cX4_slopOfAll 0 = .ok (.iconst 0, 1) := by decide +kernel
theorem dX4_slopOfAll_1 : decode cX4_slopOfAll 1 = .ok (.istore_n 1, 1) := by decide +kernel
theorem dX4_slopOfAll_2 : decode cX4_slopOfAll 2 = .ok (.iconst 0, 1) := by decide +kernel
theorem dX4_slopOfAll_3 : decode cX4_slopOfAll 3 = .ok (.istore_n 2, 1) := by decide +kernel
theorem dX4_slopOfAll_4 : decode cX4_slopOfAll 4 = .ok (.iload_n 2, 1) := by decide +kernel
theorem dX4_slopOfAll_5 : decode cX4_slopOfAll 5 = .ok (.bipush 6, 2) := by decide +kernel
theorem dX4_slopOfAll_7 : decode cX4_slopOfAll 7 = .ok (.if_icmp .ge 18, 3) := by decide +kernel
theorem dX4_slopOfAll_10 : decode cX4_slopOfAll 10 = .ok (.iload_n 1, 1) := by decide +kernel
theorem dX4_slopOfAll_11 : decode cX4_slopOfAll 11 = .ok (.aload_n 0, 1) := by decide +kernel
theorem dX4_slopOfAll_12 : decode cX4_slopOfAll 12 = .ok (.getfield 21, 3) := by decide +kernel
theorem dX4_slopOfAll_15 : decode cX4_slopOfAll 15 = .ok (.iload_n 2, 1) := by decide +kernel
theorem dX4_slopOfAll_16 : decode cX4_slopOfAll 16 = .ok (.iaload, 1) := by decide +kernel
theorem dX4_slopOfAll_17 : decode cX4_slopOfAll 17 = .ok (.iadd, 1) := by decide +kernel
theorem dX4_slopOfAll_18 : decode cX4_slopOfAll 18 = .ok (.istore_n 1, 1) := by decide +kernel
theorem dX4_slopOfAll_19 : decode cX4_slopOfAll 19 = .ok (.iinc 2 1, 3) := by decide +kernel
theorem dX4_slopOfAll_22 : decode cX4_slopOfAll 22 = .ok (.goto (-18), 3) := by decide +kernel
theorem dX4_slopOfAll_25 : decode cX4_slopOfAll 25 = .ok (.iload_n 1, 1) := by decide +kernel
theorem dX4_slopOfAll_26 : decode cX4_slopOfAll 26 = .ok (.ireturn, 1) := by decide +kernel
theorem dX5_init_0 : decode cX5_init 0 = .ok (.aload_n 0, 1) := by decide +kernel
theorem dX5_init_1 : decode cX5_init 1 = .ok (.invokespecial 3, 3) := by decide +kernel
theorem dX5_init_4 : decode cX5_init 4 = .ok (.aload_n 0, 1) := by decide +kernel
theorem dX5_init_5 : decode cX5_init 5 = .ok (.bipush 64, 2) := by decide +kernel
theorem dX5_init_7 : decode cX5_init 7 = .ok (.newarray .boolean, 2) := by decide +kernel
theorem dX5_init_9 : decode cX5_init 9 = .ok (.putfield 9, 3) := by decide +kernel
theorem dX5_init_12 : decode cX5_init 12 = .ok (.aload_n 0, 1) := by decide +kernel
theorem dX5_init_13 : decode cX5_init 13 = .ok (.bipush 64, 2) := by decide +kernel
theorem dX5_init_15 : decode cX5_init 15 = .ok (.newarray .int, 2) := by decide +kernel
theorem dX5_init_17 : decode cX5_init 17 = .ok (.putfield 15, 3) := by decide +kernel
theorem dX5_init_20 : decode cX5_init 20 = .ok (.aload_n 0, 1) := by decide +kernel
theorem dX5_init_21 : decode cX5_init 21 = .ok (.bipush 8, 2) := by decide +kernel
theorem dX5_init_23 : decode cX5_init 23 = .ok (.newarray .int, 2) := by decide +kernel
theorem dX5_init_25 : decode cX5_init 25 = .ok (.putfield 19, 3) := by decide +kernel
theorem dX5_init_28 : decode cX5_init 28 = .ok (.aload_n 0, 1) := by decide +kernel
theorem dX5_init_29 : decode cX5_init 29 = .ok (.bipush 24, 2) := by decide +kernel
theorem dX5_init_31 : decode cX5_init 31 = .ok (.newarray .int, 2) := by decide +kernel
theorem dX5_init_33 : decode cX5_init 33 = .ok (.putfield 22, 3) := by decide +kernel
theorem dX5_init_36 : decode cX5_init 36 = .ok (.iconst 0, 1) := by decide +kernel
theorem dX5_init_37 : decode cX5_init 37 = .ok (.istore_n 1, 1) := by decide +kernel
theorem dX5_init_38 : decode cX5_init 38 = .ok (.iload_n 1, 1) := by decide +kernel
theorem dX5_init_39 : decode cX5_init 39 = .ok (.aload_n 0, 1) := by decide +kernel
theorem dX5_init_40 : decode cX5_init 40 = .ok (.getfield 9, 3) := by decide +kernel
theorem dX5_init_43 : decode cX5_init 43 = .ok (.arraylength, 1) := by decide +kernel
theorem dX5_init_44 : decode cX5_init 44 = .ok (.if_icmp .ge 16, 3) := by decide +kernel
theorem dX5_init_47 : decode cX5_init 47 = .ok (.aload_n 0, 1) := by decide +kernel
theorem dX5_init_48 : decode cX5_init 48 = .ok (.getfield 9, 3) := by decide +kernel
theorem dX5_init_51 : decode cX5_init 51 = .ok (.iload_n 1, 1) := by decide +kernel
theorem dX5_init_52 : decode cX5_init 52 = .ok (.iconst 1, 1) := by decide +kernel
theorem dX5_init_53 : decode cX5_init 53 = .ok (.bastore, 1) := by decide +kernel
theorem dX5_init_54 : decode cX5_init 54 = .ok (.iinc 1 1, 3) := by decide +kernel
theorem dX5_init_57 : decode cX5_init 57 = .ok (.goto (-19), 3) := by decide +kernel
theorem dX5_init_60 : decode cX5_init 60 = .ok (.aload_n 0, 1) := by decide +kernel
theorem dX5_init_61 : decode cX5_init 61 = .ok (.getfield 22, 3) := by decide +kernel
theorem dX5_init_64 : decode cX5_init 64 = .ok (.iconst 1, 1) := by decide +kernel
theorem dX5_init_65 : decode cX5_init 65 = .ok (.invokestatic 25, 3) := by decide +kernel
theorem dX5_init_68 : decode cX5_init 68 = .ok (.return_, 1) := by decide +kernel
theorem dX5_tellPair_0 : decode cX5_tellPair 0 = .ok (.aload_n 0, 1) := by decide +kernel
theorem dX5_tellPair_1 : decode cX5_tellPair 1 = .ok (.getfield 9, 3) := by decide +kernel
theorem dX5_tellPair_4 : decode cX5_tellPair 4 = .ok (.iload_n 1, 1) := by decide +kernel
theorem dX5_tellPair_5 : decode cX5_tellPair 5 = .ok (.bipush 8, 2) := by decide +kernel
theorem dX5_tellPair_7 : decode cX5_tellPair 7 = .ok (.imul, 1) := by decide +kernel
theorem dX5_tellPair_8 : decode cX5_tellPair 8 = .ok (.iload_n 2, 1) := by decide +kernel
theorem dX5_tellPair_9 : decode cX5_tellPair 9 = .ok (.iadd, 1) := by decide +kernel
theorem dX5_tellPair_10 : decode cX5_tellPair 10 = .ok (.iload_n 3, 1) := by decide +kernel
theorem dX5_tellPair_11 : decode cX5_tellPair 11 = .ok (.bastore, 1) := by decide +kernel
theorem dX5_tellPair_12 : decode cX5_tellPair 12 = .ok (.aload_n 0, 1) := by decide +kernel
theorem dX5_tellPair_13 : decode cX5_tellPair 13 = .ok (.getfield 15, 3) := by decide +kernel
theorem dX5_tellPair_16 : decode cX5_tellPair 16 = .ok (.iload_n 1, 1) := by decide +kernel
theorem dX5_tellPair_17 : decode cX5_tellPair 17 = .ok (.bipush 8, 2) := by decide +kernel
theorem dX5_tellPair_19 : decode cX5_tellPair 19 = .ok (.imul, 1) := by decide +kernel
theorem dX5_tellPair_20 : decode cX5_tellPair 20 = .ok (.iload_n 2, 1) := by decide +kernel
theorem dX5_tellPair_21 : decode cX5_tellPair 21 = .ok (.iadd, 1) := by decide +kernel
theorem dX5_tellPair_22 : decode cX5_tellPair 22 = .ok (.iload 4, 2) := by decide +kernel
theorem dX5_tellPair_24 : decode cX5_tellPair 24 = .ok (.iastore, 1) := by decide +kernel
theorem dX5_tellPair_25 : decode cX5_tellPair 25 = .ok (.return_, 1) := by decide +kernel
theorem dX5_mayFollow_0 : decode cX5_mayFollow 0 = .ok (.aload_n 0, 1) := by decide +kernel
theorem dX5_mayFollow_1 : decode cX5_mayFollow 1 = .ok (.getfield 9, 3) := by decide +kernel
theorem dX5_mayFollow_4 : decode cX5_mayFollow 4 = .ok (.iload_n 1, 1) := by decide +kernel
theorem dX5_mayFollow_5 : decode cX5_mayFollow 5 = .ok (.bipush 8, 2) := by decide +kernel
theorem dX5_mayFollow_7 : decode cX5_mayFollow 7 = .ok (.imul, 1) := by decide +kernel
theorem dX5_mayFollow_8 : decode cX5_mayFollow 8 = .ok (.iload_n 2, 1) := by decide +kernel
theorem dX5_mayFollow_9 : decode cX5_mayFollow 9 = .ok (.iadd, 1) := by decide +kernel
theorem dX5_mayFollow_10 : decode cX5_mayFollow 10 = .ok (.baload, 1) := by decide +kernel
theorem dX5_mayFollow_11 : decode cX5_mayFollow 11 = .ok (.ireturn, 1) := by decide +kernel
theorem dX5_mixOf_0 : decode cX5_mixOf 0 = .ok (.aload_n 0, 1) := by decide +kernel
theorem dX5_mixOf_1 : decode cX5_mixOf 1 = .ok (.getfield 15, 3) := by decide +kernel
theorem dX5_mixOf_4 : decode cX5_mixOf 4 = .ok (.iload_n 1, 1) := by decide +kernel
theorem dX5_mixOf_5 : decode cX5_mixOf 5 = .ok (.bipush 8, 2) := by decide +kernel
theorem dX5_mixOf_7 : decode cX5_mixOf 7 = .ok (.imul, 1) := by decide +kernel
theorem dX5_mixOf_8 : decode cX5_mixOf 8 = .ok (.iload_n 2, 1) := by decide +kernel
theorem dX5_mixOf_9 : decode cX5_mixOf 9 = .ok (.iadd, 1) := by decide +kernel
theorem dX5_mixOf_10 : decode cX5_mixOf 10 = .ok (.iaload, 1) := by decide +kernel
theorem dX5_mixOf_11 : decode cX5_mixOf 11 = .ok (.ireturn, 1) := by decide +kernel
theorem dX5_priceAt_0 : decode cX5_priceAt 0 = .ok (.aload_n 0, 1) := by decide +kernel
theorem dX5_priceAt_1 : decode cX5_priceAt 1 = .ok (.getfield 22, 3) := by decide +kernel
theorem dX5_priceAt_4 : decode cX5_priceAt 4 = .ok (.iload_n 1, 1) := by decide +kernel
theorem dX5_priceAt_5 : decode cX5_priceAt 5 = .ok (.bipush 24, 2) := by decide +kernel
theorem dX5_priceAt_7 : decode cX5_priceAt 7 = .ok (.invokestatic 31, 3) := by decide +kernel
theorem dX5_priceAt_10 : decode cX5_priceAt 10 = .ok (.iaload, 1) := by decide +kernel
theorem dX5_priceAt_11 : decode cX5_priceAt 11 = .ok (.ireturn, 1) := by decide +kernel
theorem dX6_init_0 : decode cX6_init 0 = .ok (.aload_n 0, 1) := by decide +kernel
theorem dX6_init_1 : decode cX6_init 1 = .ok (.invokespecial 3, 3) := by decide +kernel
theorem dX6_init_4 : decode cX6_init 4 = .ok (.aload_n 0, 1) := by decide +kernel
theorem dX6_init_5 : decode cX6_init 5 = .ok (.iconst 0, 1) := by decide +kernel
theorem dX6_init_6 : decode cX6_init 6 = .ok (.putfield 9, 3) := by decide +kernel
theorem dX6_init_9 : decode cX6_init 9 = .ok (.aload_n 0, 1) := by decide +kernel
theorem dX6_init_10 : decode cX6_init 10 = .ok (.bipush 20, 2) := by decide +kernel
theorem dX6_init_12 : decode cX6_init 12 = .ok (.newarray .int, 2) := by decide +kernel
theorem dX6_init_14 : decode cX6_init 14 = .ok (.putfield 15, 3) := by decide +kernel
theorem dX6_init_17 : decode cX6_init 17 = .ok (.aload_n 0, 1) := by decide +kernel
theorem dX6_init_18 : decode cX6_init 18 = .ok (.bipush 20, 2) := by decide +kernel
theorem dX6_init_20 : decode cX6_init 20 = .ok (.newarray .int, 2) := by decide +kernel
theorem dX6_init_22 : decode cX6_init 22 = .ok (.putfield 19, 3) := by decide +kernel
theorem dX6_init_25 : decode cX6_init 25 = .ok (.aload_n 0, 1) := by decide +kernel
theorem dX6_init_26 : decode cX6_init 26 = .ok (.bipush 20, 2) := by decide +kernel
theorem dX6_init_28 : decode cX6_init 28 = .ok (.newarray .int, 2) := by decide +kernel
theorem dX6_init_30 : decode cX6_init 30 = .ok (.putfield 22, 3) := by decide +kernel
theorem dX6_init_33 : decode cX6_init 33 = .ok (.aload_n 0, 1) := by decide +kernel
theorem dX6_init_34 : decode cX6_init 34 = .ok (.bipush 20, 2) := by decide +kernel
theorem dX6_init_36 : decode cX6_init 36 = .ok (.newarray .int, 2) := by decide +kernel
theorem dX6_init_38 : decode cX6_init 38 = .ok (.putfield 25, 3) := by decide +kernel
theorem dX6_init_41 : decode cX6_init 41 = .ok (.return_, 1) := by decide +kernel
theorem dX6_tell_0 : decode cX6_tell 0 = .ok (.aload_n 0, 1) := by decide +kernel
theorem dX6_tell_1 : decode cX6_tell 1 = .ok (.getfield 9, 3) := by decide +kernel
theorem dX6_tell_4 : decode cX6_tell 4 = .ok (.istore 5, 2) := by decide +kernel
theorem dX6_tell_6 : decode cX6_tell 6 = .ok (.aload_n 0, 1) := by decide +kernel
theorem dX6_tell_7 : decode cX6_tell 7 = .ok (.getfield 15, 3) := by decide +kernel
theorem dX6_tell_10 : decode cX6_tell 10 = .ok (.iload 5, 2) := by decide +kernel
theorem dX6_tell_12 : decode cX6_tell 12 = .ok (.iload_n 1, 1) := by decide +kernel
theorem dX6_tell_13 : decode cX6_tell 13 = .ok (.iastore, 1) := by decide +kernel
theorem dX6_tell_14 : decode cX6_tell 14 = .ok (.aload_n 0, 1) := by decide +kernel
theorem dX6_tell_15 : decode cX6_tell 15 = .ok (.getfield 19, 3) := by decide +kernel
theorem dX6_tell_18 : decode cX6_tell 18 = .ok (.iload 5, 2) := by decide +kernel
theorem dX6_tell_20 : decode cX6_tell 20 = .ok (.iload_n 2, 1) := by decide +kernel
theorem dX6_tell_21 : decode cX6_tell 21 = .ok (.iastore, 1) := by decide +kernel
theorem dX6_tell_22 : decode cX6_tell 22 = .ok (.aload_n 0, 1) := by decide +kernel
theorem dX6_tell_23 : decode cX6_tell 23 = .ok (.getfield 22, 3) := by decide +kernel
theorem dX6_tell_26 : decode cX6_tell 26 = .ok (.iload 5, 2) := by decide +kernel
theorem dX6_tell_28 : decode cX6_tell 28 = .ok (.iload_n 3, 1) := by decide +kernel
theorem dX6_tell_29 : decode cX6_tell 29 = .ok (.iastore, 1) := by decide +kernel
theorem dX6_tell_30 : decode cX6_tell 30 = .ok (.aload_n 0, 1) := by decide +kernel
theorem dX6_tell_31 : decode cX6_tell 31 = .ok (.getfield 25, 3) := by decide +kernel
theorem dX6_tell_34 : decode cX6_tell 34 = .ok (.iload 5, 2) := by decide +kernel
theorem dX6_tell_36 : decode cX6_tell 36 = .ok (.iload 4, 2) := by decide +kernel
theorem dX6_tell_38 : decode cX6_tell 38 = .ok (.iastore, 1) := by decide +kernel
theorem dX6_tell_39 : decode cX6_tell 39 = .ok (.aload_n 0, 1) := by decide +kernel
theorem dX6_tell_40 : decode cX6_tell 40 = .ok (.iload 5, 2) := by decide +kernel
theorem dX6_tell_42 : decode cX6_tell 42 = .ok (.iconst 1, 1) := by decide +kernel
theorem dX6_tell_43 : decode cX6_tell 43 = .ok (.iadd, 1) := by decide +kernel
theorem dX6_tell_44 : decode cX6_tell 44 = .ok (.putfield 9, 3) := by decide +kernel
theorem dX6_tell_47 : decode cX6_tell 47 = .ok (.iload 5, 2) := by decide +kernel
theorem dX6_tell_49 : decode cX6_tell 49 = .ok (.ireturn, 1) := by decide +kernel
theorem dX6_wanting_0 : decode cX6_wanting 0 = .ok (.aload_n 2, 1) := by decide +kernel
theorem dX6_wanting_1 : decode cX6_wanting 1 = .ok (.getfield 28, 3) := by decide +kernel
theorem dX6_wanting_4 : decode cX6_wanting 4 = .ok (.aload_n 0, 1) := by decide +kernel
theorem dX6_wanting_5 : decode cX6_wanting 5 = .ok (.getfield 15, 3) := by decide +kernel
theorem dX6_wanting_8 : decode cX6_wanting 8 = .ok (.iload_n 1, 1) := by decide +kernel
theorem dX6_wanting_9 : decode cX6_wanting 9 = .ok (.iaload, 1) := by decide +kernel
theorem dX6_wanting_10 : decode cX6_wanting 10 = .ok (.iaload, 1) := by decide +kernel
theorem dX6_wanting_11 : decode cX6_wanting 11 = .ok (.aload_n 0, 1) := by decide +kernel
theorem dX6_wanting_12 : decode cX6_wanting 12 = .ok (.getfield 25, 3) := by decide +kernel
theorem dX6_wanting_15 : decode cX6_wanting 15 = .ok (.iload_n 1, 1) := by decide +kernel
theorem dX6_wanting_16 : decode cX6_wanting 16 = .ok (.iaload, 1) := by decide +kernel
theorem dX6_wanting_17 : decode cX6_wanting 17 = .ok (.isub, 1) := by decide +kernel
theorem dX6_wanting_18 : decode cX6_wanting 18 = .ok (.istore_n 3, 1) := by decide +kernel
theorem dX6_wanting_19 : decode cX6_wanting 19 = .ok (.iconst 0, 1) := by decide +kernel
theorem dX6_wanting_20 : decode cX6_wanting 20 = .ok (.aload_n 0, 1) := by decide +kernel
theorem dX6_wanting_21 : decode cX6_wanting 21 = .ok (.getfield 19, 3) := by decide +kernel
theorem dX6_wanting_24 : decode cX6_wanting 24 = .ok (.iload_n 1, 1) := by decide +kernel
theorem dX6_wanting_25 : decode cX6_wanting 25 = .ok (.iaload, 1) := by decide +kernel
theorem dX6_wanting_26 : decode cX6_wanting 26 = .ok (.iload_n 3, 1) := by decide +kernel
theorem dX6_wanting_27 : decode cX6_wanting 27 = .ok (.isub, 1) := by decide +kernel
theorem dX6_wanting_28 : decode cX6_wanting 28 = .ok (.invokestatic 33, 3) := by decide +kernel
theorem dX6_wanting_31 : decode cX6_wanting 31 = .ok (.ireturn, 1) := by decide +kernel
theorem dX6_keep_0 : decode cX6_keep 0 = .ok (.iconst 0, 1) := by decide +kernel
theorem dX6_keep_1 : decode cX6_keep 1 = .ok (.istore_n 2, 1) := by decide +kernel
theorem dX6_keep_2 : decode cX6_keep 2 = .ok (.iload_n 2, 1) := by decide +kernel
theorem dX6_keep_3 : decode cX6_keep 3 = .ok (.aload_n 0, 1) := by decide +kernel
theorem dX6_keep_4 : decode cX6_keep 4 = .ok (.getfield 9, 3) := by decide +kernel
theorem dX6_keep_7 : decode cX6_keep 7 = .ok (.if_icmp .ge 41, 3) := by decide +kernel
theorem dX6_keep_10 : decode cX6_keep 10 = .ok (.aload_n 1, 1) := by decide +kernel
theorem dX6_keep_11 : decode cX6_keep 11 = .ok (.getfield 39, 3) := by decide +kernel
theorem dX6_keep_14 : decode cX6_keep 14 = .ok (.iload_n 2, 1) := by decide +kernel
theorem dX6_keep_15 : decode cX6_keep 15 = .ok (.iaload, 1) := by decide +kernel
theorem dX6_keep_16 : decode cX6_keep 16 = .ok (.iconst (-1), 1) := by decide +kernel
theorem dX6_keep_17 : decode cX6_keep 17 = .ok (.if_icmp .ne 25, 3) := by decide +kernel
theorem dX6_keep_20 : decode cX6_keep 20 = .ok (.aload_n 0, 1) := by decide +kernel
theorem dX6_keep_21 : decode cX6_keep 21 = .ok (.iload_n 2, 1) := by decide +kernel
theorem dX6_keep_22 : decode cX6_keep 22 = .ok (.aload_n 1, 1) := by decide +kernel
theorem dX6_keep_23 : decode cX6_keep 23 = .ok (.getfield 44, 3) := by decide +kernel
theorem dX6_keep_26 : decode cX6_keep 26 = .ok (.invokevirtual 48, 3) := by decide +kernel
theorem dX6_keep_29 : decode cX6_keep 29 = .ok (.ifCond .ne 13, 3) := by decide +kernel
theorem dX6_keep_32 : decode cX6_keep 32 = .ok (.aload_n 1, 1) := by decide +kernel
theorem dX6_keep_33 : decode cX6_keep 33 = .ok (.getfield 39, 3) := by decide +kernel
theorem dX6_keep_36 : decode cX6_keep 36 = .ok (.iload_n 2, 1) := by decide +kernel
theorem dX6_keep_37 : decode cX6_keep 37 = .ok (.aload_n 1, 1) := by decide +kernel
theorem dX6_keep_38 : decode cX6_keep 38 = .ok (.getfield 52, 3) := by decide +kernel
theorem dX6_keep_41 : decode cX6_keep 41 = .ok (.iastore, 1) := by decide +kernel
theorem dX6_keep_42 : decode cX6_keep 42 = .ok (.iinc 2 1, 3) := by decide +kernel
theorem dX6_keep_45 : decode cX6_keep 45 = .ok (.goto (-43), 3) := by decide +kernel
theorem dX6_keep_48 : decode cX6_keep 48 = .ok (.return_, 1) := by decide +kernel
theorem dX6_lateBy_0 : decode cX6_lateBy 0 = .ok (.aload_n 2, 1) := by decide +kernel
theorem dX6_lateBy_1 : decode cX6_lateBy 1 = .ok (.getfield 39, 3) := by decide +kernel
theorem dX6_lateBy_4 : decode cX6_lateBy 4 = .ok (.iload_n 1, 1) := by decide +kernel
theorem dX6_lateBy_5 : decode cX6_lateBy 5 = .ok (.iaload, 1) := by decide +kernel
theorem dX6_lateBy_6 : decode cX6_lateBy 6 = .ok (.iconst (-1), 1) := by decide +kernel
theorem dX6_lateBy_7 : decode cX6_lateBy 7 = .ok (.if_icmp .ne 10, 3) := by decide +kernel
theorem dX6_lateBy_10 : decode cX6_lateBy 10 = .ok (.aload_n 2, 1) := by decide +kernel
theorem dX6_lateBy_11 : decode cX6_lateBy 11 = .ok (.getfield 52, 3) := by decide +kernel
theorem dX6_lateBy_14 : decode cX6_lateBy 14 = .ok (.goto 9, 3) := by decide +kernel
theorem dX6_lateBy_17 : decode cX6_lateBy 17 = .ok (.aload_n 2, 1) := by decide +kernel
theorem dX6_lateBy_18 : decode cX6_lateBy 18 = .ok (.getfield 39, 3) := by decide +kernel
theorem dX6_lateBy_21 : decode cX6_lateBy 21 = .ok (.iload_n 1, 1) := by decide +kernel
theorem dX6_lateBy_22 : decode cX6_lateBy 22 = .ok (.iaload, 1) := by decide +kernel
theorem dX6_lateBy_23 : decode cX6_lateBy 23 = .ok (.istore_n 3, 1) := by decide +kernel
theorem dX6_lateBy_24 : decode cX6_lateBy 24 = .ok (.iconst 0, 1) := by decide +kernel
theorem dX6_lateBy_25 : decode cX6_lateBy 25 = .ok (.iload_n 3, 1) := by decide +kernel
theorem dX6_lateBy_26 : decode cX6_lateBy 26 = .ok (.aload_n 0, 1) := by decide +kernel
theorem dX6_lateBy_27 : decode cX6_lateBy 27 = .ok (.getfield 22, 3) := by decide +kernel
theorem dX6_lateBy_30 : decode cX6_lateBy 30 = .ok (.iload_n 1, 1) := by decide +kernel
theorem dX6_lateBy_31 : decode cX6_lateBy 31 = .ok (.iaload, 1) := by decide +kernel
theorem dX6_lateBy_32 : decode cX6_lateBy 32 = .ok (.isub, 1) := by decide +kernel
theorem dX6_lateBy_33 : decode cX6_lateBy 33 = .ok (.invokestatic 33, 3) := by decide +kernel
theorem dX6_lateBy_36 : decode cX6_lateBy 36 = .ok (.ireturn, 1) := by decide +kernel
theorem dX6_lateByAll_0 : decode cX6_lateByAll 0 = .ok (.iconst 0, 1) := by decide +kernel
theorem dX6_lateByAll_1 : decode cX6_lateByAll 1 = .ok (.istore_n 2, 1) := by decide +kernel
theorem dX6_lateByAll_2 : decode cX6_lateByAll 2 = .ok (.iconst 0, 1) := by decide +kernel
theorem dX6_lateByAll_3 : decode cX6_lateByAll 3 = .ok (.istore_n 3, 1) := by decide +kernel
theorem dX6_lateByAll_4 : decode cX6_lateByAll 4 = .ok (.iload_n 3, 1) := by decide +kernel
theorem dX6_lateByAll_5 : decode cX6_lateByAll 5 = .ok (.aload_n 0, 1) := by decide +kernel
theorem dX6_lateByAll_6 : decode cX6_lateByAll 6 = .ok (.getfield 9, 3) := by decide +kernel
theorem dX6_lateByAll_9 : decode cX6_lateByAll 9 = .ok (.if_icmp .ge 18, 3) := by decide +kernel
theorem dX6_lateByAll_12 : decode cX6_lateByAll 12 = .ok (.iload_n 2, 1) := by decide +kernel
theorem dX6_lateByAll_13 : decode cX6_lateByAll 13 = .ok (.aload_n 0, 1) := by decide +kernel
theorem dX6_lateByAll_14 : decode cX6_lateByAll 14 = .ok (.iload_n 3, 1) := by decide +kernel
theorem dX6_lateByAll_15 : decode cX6_lateByAll 15 = .ok (.aload_n 1, 1) := by decide +kernel
theorem dX6_lateByAll_16 : decode cX6_lateByAll 16 = .ok (.invokevirtual 55, 3) := by decide +kernel
theorem dX6_lateByAll_19 : decode cX6_lateByAll 19 = .ok (.iadd, 1) := by decide +kernel
theorem dX6_lateByAll_20 : decode cX6_lateByAll 20 = .ok (.istore_n 2, 1) := by decide +kernel
theorem dX6_lateByAll_21 : decode cX6_lateByAll 21 = .ok (.iinc 3 1, 3) := by decide +kernel
theorem dX6_lateByAll_24 : decode cX6_lateByAll 24 = .ok (.goto (-20), 3) := by decide +kernel
theorem dX6_lateByAll_27 : decode cX6_lateByAll 27 = .ok (.iload_n 2, 1) := by decide +kernel
theorem dX6_lateByAll_28 : decode cX6_lateByAll 28 = .ok (.ireturn, 1) := by decide +kernel
theorem dX7_init_0 : decode cX7_init 0 = .ok (.aload_n 0, 1) := by decide +kernel
theorem dX7_init_1 : decode cX7_init 1 = .ok (.invokespecial 3, 3) := by decide +kernel
theorem dX7_init_4 : decode cX7_init 4 = .ok (.aload_n 0, 1) := by decide +kernel
theorem dX7_init_5 : decode cX7_init 5 = .ok (.new 9, 3) := by decide +kernel
theorem dX7_init_8 : decode cX7_init 8 = .ok (.dup, 1) := by decide +kernel
theorem dX7_init_9 : decode cX7_init 9 = .ok (.invokespecial 11, 3) := by decide +kernel
theorem dX7_init_12 : decode cX7_init 12 = .ok (.putfield 12, 3) := by decide +kernel
theorem dX7_init_15 : decode cX7_init 15 = .ok (.aload_n 0, 1) := by decide +kernel
theorem dX7_init_16 : decode cX7_init 16 = .ok (.new 16, 3) := by decide +kernel
theorem dX7_init_19 : decode cX7_init 19 = .ok (.dup, 1) := by decide +kernel
theorem dX7_init_20 : decode cX7_init 20 = .ok (.invokespecial 18, 3) := by decide +kernel
theorem dX7_init_23 : decode cX7_init 23 = .ok (.putfield 19, 3) := by decide +kernel
theorem dX7_init_26 : decode cX7_init 26 = .ok (.aload_n 0, 1) := by decide +kernel
theorem dX7_init_27 : decode cX7_init 27 = .ok (.new 23, 3) := by decide +kernel
theorem dX7_init_30 : decode cX7_init 30 = .ok (.dup, 1) := by decide +kernel
theorem dX7_init_31 : decode cX7_init 31 = .ok (.invokespecial 25, 3) := by decide +kernel
theorem dX7_init_34 : decode cX7_init 34 = .ok (.putfield 26, 3) := by decide +kernel
theorem dX7_init_37 : decode cX7_init 37 = .ok (.aload_n 0, 1) := by decide +kernel
theorem dX7_init_38 : decode cX7_init 38 = .ok (.new 30, 3) := by decide +kernel
theorem dX7_init_41 : decode cX7_init 41 = .ok (.dup, 1) := by decide +kernel
theorem dX7_init_42 : decode cX7_init 42 = .ok (.invokespecial 32, 3) := by decide +kernel
theorem dX7_init_45 : decode cX7_init 45 = .ok (.putfield 33, 3) := by decide +kernel
theorem dX7_init_48 : decode cX7_init 48 = .ok (.aload_n 0, 1) := by decide +kernel
theorem dX7_init_49 : decode cX7_init 49 = .ok (.sipush 200, 3) := by decide +kernel
theorem dX7_init_52 : decode cX7_init 52 = .ok (.newarray .int, 2) := by decide +kernel
theorem dX7_init_54 : decode cX7_init 54 = .ok (.putfield 37, 3) := by decide +kernel
theorem dX7_init_57 : decode cX7_init 57 = .ok (.aload_n 0, 1) := by decide +kernel
theorem dX7_init_58 : decode cX7_init 58 = .ok (.sipush 200, 3) := by decide +kernel
theorem dX7_init_61 : decode cX7_init 61 = .ok (.newarray .int, 2) := by decide +kernel
theorem dX7_init_63 : decode cX7_init 63 = .ok (.putfield 41, 3) := by decide +kernel
theorem dX7_init_66 : decode cX7_init 66 = .ok (.aload_n 0, 1) := by decide +kernel
theorem dX7_init_67 : decode cX7_init 67 = .ok (.new 44, 3) := by decide +kernel
theorem dX7_init_70 : decode cX7_init 70 = .ok (.dup, 1) := by decide +kernel
theorem dX7_init_71 : decode cX7_init 71 = .ok (.invokespecial 46, 3) := by decide +kernel
theorem dX7_init_74 : decode cX7_init 74 = .ok (.putfield 47, 3) := by decide +kernel
theorem dX7_init_77 : decode cX7_init 77 = .ok (.aload_n 0, 1) := by decide +kernel
theorem dX7_init_78 : decode cX7_init 78 = .ok (.sipush 200, 3) := by decide +kernel
theorem dX7_init_81 : decode cX7_init 81 = .ok (.anewarray 44, 3) := by decide +kernel
theorem dX7_init_84 : decode cX7_init 84 = .ok (.putfield 51, 3) := by decide +kernel
theorem dX7_init_87 : decode cX7_init 87 = .ok (.aload_n 0, 1) := by decide +kernel
theorem dX7_init_88 : decode cX7_init 88 = .ok (.iconst 0, 1) := by decide +kernel
theorem dX7_init_89 : decode cX7_init 89 = .ok (.putfield 55, 3) := by decide +kernel
theorem dX7_init_92 : decode cX7_init 92 = .ok (.aload_n 0, 1) := by decide +kernel
theorem dX7_init_93 : decode cX7_init 93 = .ok (.getfield 41, 3) := by decide +kernel
theorem dX7_init_96 : decode cX7_init 96 = .ok (.iconst 0, 1) := by decide +kernel
theorem dX7_init_97 : decode cX7_init 97 = .ok (.iconst (-1), 1) := by decide +kernel
theorem dX7_init_98 : decode cX7_init 98 = .ok (.iastore, 1) := by decide +kernel
theorem dX7_init_99 : decode cX7_init 99 = .ok (.aload_n 0, 1) := by decide +kernel
theorem dX7_init_100 : decode cX7_init 100 = .ok (.getfield 47, 3) := by decide +kernel
theorem dX7_init_103 : decode cX7_init 103 = .ok (.bipush 20, 2) := by decide +kernel
theorem dX7_init_105 : decode cX7_init 105 = .ok (.invokevirtual 59, 3) := by decide +kernel
theorem dX7_init_108 : decode cX7_init 108 = .ok (.return_, 1) := by decide +kernel
theorem dX7_line_0 : decode cX7_line 0 = .ok (.iload_n 1, 1) := by decide +kernel
theorem dX7_line_1 : decode cX7_line 1 = .ok (.iconst 4, 1) := by decide +kernel
theorem dX7_line_2 : decode cX7_line 2 = .ok (.bipush 120, 2) := by decide +kernel
theorem dX7_line_4 : decode cX7_line 4 = .ok (.invokestatic 63, 3) := by decide +kernel
theorem dX7_line_7 : decode cX7_line 7 = .ok (.ifCond .ne 6, 3) := by decide +kernel
theorem dX7_line_10 : decode cX7_line 10 = .ok (.bipush (-2), 2) := by decide +kernel
theorem dX7_line_12 : decode cX7_line 12 = .ok (.ireturn, 1) := by decide +kernel
theorem dX7_line_13 : decode cX7_line 13 = .ok (.aload_n 0, 1) := by decide +kernel
theorem dX7_line_14 : decode cX7_line 14 = .ok (.getfield 19, 3) := by decide +kernel
theorem dX7_line_17 : decode cX7_line 17 = .ok (.invokevirtual 67, 3) := by decide +kernel
theorem dX7_line_20 : decode cX7_line 20 = .ok (.aload_n 0, 1) := by decide +kernel
theorem dX7_line_21 : decode cX7_line 21 = .ok (.getfield 26, 3) := by decide +kernel
theorem dX7_line_24 : decode cX7_line 24 = .ok (.iconst 0, 1) := by decide +kernel
theorem dX7_line_25 : decode cX7_line 25 = .ok (.putfield 70, 3) := by decide +kernel
theorem dX7_line_28 : decode cX7_line 28 = .ok (.aload_n 0, 1) := by decide +kernel
theorem dX7_line_29 : decode cX7_line 29 = .ok (.getfield 47, 3) := by decide +kernel
theorem dX7_line_32 : decode cX7_line 32 = .ok (.iload_n 1, 1) := by decide +kernel
theorem dX7_line_33 : decode cX7_line 33 = .ok (.invokevirtual 59, 3) := by decide +kernel
theorem dX7_line_36 : decode cX7_line 36 = .ok (.aload_n 0, 1) := by decide +kernel
theorem dX7_line_37 : decode cX7_line 37 = .ok (.iconst 0, 1) := by decide +kernel
theorem dX7_line_38 : decode cX7_line 38 = .ok (.putfield 55, 3) := by decide +kernel
theorem dX7_line_41 : decode cX7_line 41 = .ok (.iconst 0, 1) := by decide +kernel
theorem dX7_line_42 : decode cX7_line 42 = .ok (.ireturn, 1) := by decide +kernel
theorem dX7_door_0 : decode cX7_door 0 = .ok (.iload_n 1, 1) := by decide +kernel
theorem dX7_door_1 : decode cX7_door 1 = .ok (.iconst 0, 1) := by decide +kernel
theorem dX7_door_2 : decode cX7_door 2 = .ok (.aload_n 0, 1) := by decide +kernel
theorem dX7_door_3 : decode cX7_door 3 = .ok (.getfield 47, 3) := by decide +kernel
theorem dX7_door_6 : decode cX7_door 6 = .ok (.getfield 73, 3) := by decide +kernel
theorem dX7_door_9 : decode cX7_door 9 = .ok (.getfield 77, 3) := by decide +kernel
theorem dX7_door_12 : decode cX7_door 12 = .ok (.invokestatic 63, 3) := by decide +kernel
theorem dX7_door_15 : decode cX7_door 15 = .ok (.ifCond .ne 6, 3) := by decide +kernel
theorem dX7_door_18 : decode cX7_door 18 = .ok (.bipush (-2), 2) := by decide +kernel
theorem dX7_door_20 : decode cX7_door 20 = .ok (.ireturn, 1) := by decide +kernel
theorem dX7_door_21 : decode cX7_door 21 = .ok (.aload_n 0, 1) := by decide +kernel
theorem dX7_door_22 : decode cX7_door 22 = .ok (.getfield 19, 3) := by decide +kernel
theorem dX7_door_25 : decode cX7_door 25 = .ok (.iload_n 1, 1) := by decide +kernel
theorem dX7_door_26 : decode cX7_door 26 = .ok (.invokevirtual 80, 3) := by decide +kernel
theorem dX7_door_29 : decode cX7_door 29 = .ok (.ifCond .eq 6, 3) := by decide +kernel
theorem dX7_door_32 : decode cX7_door 32 = .ok (.bipush (-3), 2) := by decide +kernel
theorem dX7_door_34 : decode cX7_door 34 = .ok (.ireturn, 1) := by decide +kernel
theorem dX7_door_35 : decode cX7_door 35 = .ok (.aload_n 0, 1) := by decide +kernel
theorem dX7_door_36 : decode cX7_door 36 = .ok (.getfield 19, 3) := by decide +kernel
theorem dX7_door_39 : decode cX7_door 39 = .ok (.getfield 84, 3) := by decide +kernel
theorem dX7_door_42 : decode cX7_door 42 = .ok (.bipush 6, 2) := by decide +kernel
theorem dX7_door_44 : decode cX7_door 44 = .ok (.if_icmp .lt 6, 3) := by decide +kernel
theorem dX7_door_47 : decode cX7_door 47 = .ok (.bipush (-4), 2) := by decide +kernel
theorem dX7_door_49 : decode cX7_door 49 = .ok (.ireturn, 1) := by decide +kernel
theorem dX7_door_50 : decode cX7_door 50 = .ok (.aload_n 0, 1) := by decide +kernel
theorem dX7_door_51 : decode cX7_door 51 = .ok (.iconst 0, 1) := by decide +kernel
theorem dX7_door_52 : decode cX7_door 52 = .ok (.putfield 55, 3) := by decide +kernel
theorem dX7_door_55 : decode cX7_door 55 = .ok (.aload_n 0, 1) := by decide +kernel
theorem dX7_door_56 : decode cX7_door 56 = .ok (.getfield 19, 3) := by decide +kernel
theorem dX7_door_59 : decode cX7_door 59 = .ok (.iload_n 1, 1) := by decide +kernel
theorem dX7_door_60 : decode cX7_door 60 = .ok (.invokevirtual 85, 3) := by decide +kernel
theorem dX7_door_63 : decode cX7_door 63 = .ok (.ireturn, 1) := by decide +kernel
theorem dX7_tank_0 : decode cX7_tank 0 = .ok (.aload_n 0, 1) := by decide +kernel
theorem dX7_tank_1 : decode cX7_tank 1 = .ok (.getfield 19, 3) := by decide +kernel
theorem dX7_tank_4 : decode cX7_tank 4 = .ok (.iload_n 1, 1) := by decide +kernel
theorem dX7_tank_5 : decode cX7_tank 5 = .ok (.invokevirtual 89, 3) := by decide +kernel
theorem dX7_tank_8 : decode cX7_tank 8 = .ok (.ifCond .eq 10, 3) := by decide +kernel
theorem dX7_tank_11 : decode cX7_tank 11 = .ok (.iload_n 2, 1) := by decide +kernel
theorem dX7_tank_12 : decode cX7_tank 12 = .ok (.invokestatic 92, 3) := by decide +kernel
theorem dX7_tank_15 : decode cX7_tank 15 = .ok (.ifCond .ne 5, 3) := by decide +kernel
theorem dX7_tank_18 : decode cX7_tank 18 = .ok (.iconst (-1), 1) := by decide +kernel
theorem dX7_tank_19 : decode cX7_tank 19 = .ok (.ireturn, 1) := by decide +kernel
theorem dX7_tank_20 : decode cX7_tank 20 = .ok (.iload 4, 2) := by decide +kernel
theorem dX7_tank_22 : decode cX7_tank 22 = .ok (.iconst 0, 1) := by decide +kernel
theorem dX7_tank_23 : decode cX7_tank 23 = .ok (.sipush 10000, 3) := by decide +kernel
theorem dX7_tank_26 : decode cX7_tank 26 = .ok (.invokestatic 63, 3) := by decide +kernel
theorem dX7_tank_29 : decode cX7_tank 29 = .ok (.ifCond .eq 24, 3) := by decide +kernel
theorem dX7_tank_32 : decode cX7_tank 32 = .ok (.iload_n 3, 1) := by decide +kernel
theorem dX7_tank_33 : decode cX7_tank 33 = .ok (.iconst 0, 1) := by decide +kernel
theorem dX7_tank_34 : decode cX7_tank 34 = .ok (.iload 4, 2) := by decide +kernel
theorem dX7_tank_36 : decode cX7_tank 36 = .ok (.invokestatic 63, 3) := by decide +kernel
theorem dX7_tank_39 : decode cX7_tank 39 = .ok (.ifCond .eq 14, 3) := by decide +kernel
theorem dX7_tank_42 : decode cX7_tank 42 = .ok (.iload 5, 2) := by decide +kernel
theorem dX7_tank_44 : decode cX7_tank 44 = .ok (.iload_n 3, 1) := by decide +kernel
theorem dX7_tank_45 : decode cX7_tank 45 = .ok (.iload 4, 2) := by decide +kernel
theorem dX7_tank_47 : decode cX7_tank 47 = .ok (.invokestatic 63, 3) := by decide +kernel
theorem dX7_tank_50 : decode cX7_tank 50 = .ok (.ifCond .ne 6, 3) := by decide +kernel
theorem dX7_tank_53 : decode cX7_tank 53 = .ok (.bipush (-2), 2) := by decide +kernel
theorem dX7_tank_55 : decode cX7_tank 55 = .ok (.ireturn, 1) := by decide +kernel
theorem dX7_tank_56 : decode cX7_tank 56 = .ok (.iload_n 1, 1) := by decide +kernel
theorem dX7_tank_57 : decode cX7_tank 57 = .ok (.iload_n 2, 1) := by decide +kernel
theorem dX7_tank_58 : decode cX7_tank 58 = .ok (.invokestatic 95, 3) := by decide +kernel
theorem dX7_tank_61 : decode cX7_tank 61 = .ok (.istore 6, 2) := by decide +kernel
theorem dX7_tank_63 : decode cX7_tank 63 = .ok (.aload_n 0, 1) := by decide +kernel
theorem dX7_tank_64 : decode cX7_tank 64 = .ok (.getfield 19, 3) := by decide +kernel
theorem dX7_tank_67 : decode cX7_tank 67 = .ok (.getfield 99, 3) := by decide +kernel
theorem dX7_tank_70 : decode cX7_tank 70 = .ok (.iload 6, 2) := by decide +kernel
theorem dX7_tank_72 : decode cX7_tank 72 = .ok (.baload, 1) := by decide +kernel
theorem dX7_tank_73 : decode cX7_tank 73 = .ok (.ifCond .eq 6, 3) := by decide +kernel
theorem dX7_tank_76 : decode cX7_tank 76 = .ok (.bipush (-3), 2) := by decide +kernel
theorem dX7_tank_78 : decode cX7_tank 78 = .ok (.ireturn, 1) := by decide +kernel
theorem dX7_tank_79 : decode cX7_tank 79 = .ok (.aload_n 0, 1) := by decide +kernel
theorem dX7_tank_80 : decode cX7_tank 80 = .ok (.getfield 19, 3) := by decide +kernel
theorem dX7_tank_83 : decode cX7_tank 83 = .ok (.iload 6, 2) := by decide +kernel
theorem dX7_tank_85 : decode cX7_tank 85 = .ok (.iload_n 3, 1) := by decide +kernel
theorem dX7_tank_86 : decode cX7_tank 86 = .ok (.iload 4, 2) := by decide +kernel
theorem dX7_tank_88 : decode cX7_tank 88 = .ok (.invokevirtual 103, 3) := by decide +kernel
theorem dX7_tank_91 : decode cX7_tank 91 = .ok (.aload_n 0, 1) := by decide +kernel
theorem dX7_tank_92 : decode cX7_tank 92 = .ok (.getfield 47, 3) := by decide +kernel
theorem dX7_tank_95 : decode cX7_tank 95 = .ok (.getfield 107, 3) := by decide +kernel
theorem dX7_tank_98 : decode cX7_tank 98 = .ok (.iload 6, 2) := by decide +kernel
theorem dX7_tank_100 : decode cX7_tank 100 = .ok (.iload 5, 2) := by decide +kernel
theorem dX7_tank_102 : decode cX7_tank 102 = .ok (.invokevirtual 111, 3) := by decide +kernel
theorem dX7_tank_105 : decode cX7_tank 105 = .ok (.aload_n 0, 1) := by decide +kernel
theorem dX7_tank_106 : decode cX7_tank 106 = .ok (.iconst 0, 1) := by decide +kernel
theorem dX7_tank_107 : decode cX7_tank 107 = .ok (.putfield 55, 3) := by decide +kernel
theorem dX7_tank_110 : decode cX7_tank 110 = .ok (.iconst 0, 1) := by decide +kernel
theorem dX7_tank_111 : decode cX7_tank 111 = .ok (.ireturn, 1) := by decide +kernel
theorem dX7_follow_0 : decode cX7_follow 0 = .ok (.iload_n 1, 1) := by decide +kernel
theorem dX7_follow_1 : decode cX7_follow 1 = .ok (.invokestatic 92, 3) := by decide +kernel
theorem dX7_follow_4 : decode cX7_follow 4 = .ok (.ifCond .eq 10, 3) := by decide +kernel
theorem dX7_follow_7 : decode cX7_follow 7 = .ok (.iload_n 2, 1) := by decide +kernel
theorem dX7_follow_8 : decode cX7_follow 8 = .ok (.invokestatic 92, 3) := by decide +kernel
theorem dX7_follow_11 : decode cX7_follow 11 = .ok (.ifCond .ne 5, 3) := by decide +kernel
theorem dX7_follow_14 : decode cX7_follow 14 = .ok (.iconst (-1), 1) := by decide +kernel
theorem dX7_follow_15 : decode cX7_follow 15 = .ok (.ireturn, 1) := by decide +kernel
theorem dX7_follow_16 : decode cX7_follow 16 = .ok (.iload_n 3, 1) := by decide +kernel
theorem dX7_follow_17 : decode cX7_follow 17 = .ok (.iconst 0, 1) := by decide +kernel
theorem dX7_follow_18 : decode cX7_follow 18 = .ok (.iconst 1, 1) := by decide +kernel
theorem dX7_follow_19 : decode cX7_follow 19 = .ok (.invokestatic 63, 3) := by decide +kernel
theorem dX7_follow_22 : decode cX7_follow 22 = .ok (.ifCond .eq 15, 3) := by decide +kernel
theorem dX7_follow_25 : decode cX7_follow 25 = .ok (.iload 4, 2) := by decide +kernel
theorem dX7_follow_27 : decode cX7_follow 27 = .ok (.iconst 0, 1) := by decide +kernel
theorem dX7_follow_28 : decode cX7_follow 28 = .ok (.sipush 200, 3) := by decide +kernel
theorem dX7_follow_31 : decode cX7_follow 31 = .ok (.invokestatic 63, 3) := by decide +kernel
theorem dX7_follow_34 : decode cX7_follow 34 = .ok (.ifCond .ne 6, 3) := by decide +kernel
theorem dX7_follow_37 : decode cX7_follow 37 = .ok (.bipush (-2), 2) := by decide +kernel
theorem dX7_follow_39 : decode cX7_follow 39 = .ok (.ireturn, 1) := by decide +kernel
theorem dX7_follow_40 : decode cX7_follow 40 = .ok (.iload_n 3, 1) := by decide +kernel
theorem dX7_follow_41 : decode cX7_follow 41 = .ok (.ifCond .ne 11, 3) := by decide +kernel
theorem dX7_follow_44 : decode cX7_follow 44 = .ok (.iload_n 1, 1) := by decide +kernel
theorem dX7_follow_45 : decode cX7_follow 45 = .ok (.iload_n 2, 1) := by decide +kernel
theorem dX7_follow_46 : decode cX7_follow 46 = .ok (.if_icmp .ne 6, 3) := by decide +kernel
theorem dX7_follow_49 : decode cX7_follow 49 = .ok (.bipush (-3), 2) := by decide +kernel
theorem dX7_follow_51 : decode cX7_follow 51 = .ok (.ireturn, 1) := by decide +kernel
theorem dX7_follow_52 : decode cX7_follow 52 = .ok (.aload_n 0, 1) := by decide +kernel
theorem dX7_follow_53 : decode cX7_follow 53 = .ok (.getfield 12, 3) := by decide +kernel
theorem dX7_follow_56 : decode cX7_follow 56 = .ok (.iload_n 1, 1) := by decide +kernel
theorem dX7_follow_57 : decode cX7_follow 57 = .ok (.iload_n 2, 1) := by decide +kernel
theorem dX7_follow_58 : decode cX7_follow 58 = .ok (.iload_n 3, 1) := by decide +kernel
theorem dX7_follow_59 : decode cX7_follow 59 = .ok (.iconst 1, 1) := by decide +kernel
theorem dX7_follow_60 : decode cX7_follow 60 = .ok (.if_icmp .ne 7, 3) := by decide +kernel
theorem dX7_follow_63 : decode cX7_follow 63 = .ok (.iconst 1, 1) := by decide +kernel
theorem dX7_follow_64 : decode cX7_follow 64 = .ok (.goto 4, 3) := by decide +kernel
theorem dX7_follow_67 : decode cX7_follow 67 = .ok (.iconst 0, 1) := by decide +kernel
theorem dX7_follow_68 : decode cX7_follow 68 = .ok (.iload 4, 2) := by decide +kernel
theorem dX7_follow_70 : decode cX7_follow 70 = .ok (.invokevirtual 117, 3) := by decide +kernel
theorem dX7_follow_73 : decode cX7_follow 73 = .ok (.aload_n 0, 1) := by decide +kernel
theorem dX7_follow_74 : decode cX7_follow 74 = .ok (.iconst 0, 1) := by decide +kernel
theorem dX7_follow_75 : decode cX7_follow 75 = .ok (.putfield 55, 3) := by decide +kernel
theorem dX7_follow_78 : decode cX7_follow 78 = .ok (.iconst 0, 1) := by decide +kernel
theorem dX7_follow_79 : decode cX7_follow 79 = .ok (.ireturn, 1) := by decide +kernel
theorem dX7_grace_0 : decode cX7_grace 0 = .ok (.iload_n 1, 1) := by decide +kernel
theorem dX7_grace_1 : decode cX7_grace 1 = .ok (.invokestatic 92, 3) := by decide +kernel
theorem dX7_grace_4 : decode cX7_grace 4 = .ok (.ifCond .ne 5, 3) := by decide +kernel
theorem dX7_grace_7 : decode cX7_grace 7 = .ok (.iconst (-1), 1) := by decide +kernel
theorem dX7_grace_8 : decode cX7_grace 8 = .ok (.ireturn, 1) := by decide +kernel
theorem dX7_grace_9 : decode cX7_grace 9 = .ok (.iload_n 2, 1) := by decide +kernel
theorem dX7_grace_10 : decode cX7_grace 10 = .ok (.iconst 0, 1) := by decide +kernel
theorem dX7_grace_11 : decode cX7_grace 11 = .ok (.bipush 100, 2) := by decide +kernel
theorem dX7_grace_13 : decode cX7_grace 13 = .ok (.invokestatic 63, 3) := by decide +kernel
theorem dX7_grace_16 : decode cX7_grace 16 = .ok (.ifCond .ne 6, 3) := by decide +kernel
theorem dX7_grace_19 : decode cX7_grace 19 = .ok (.bipush (-2), 2) := by decide +kernel
theorem dX7_grace_21 : decode cX7_grace 21 = .ok (.ireturn, 1) := by decide +kernel
theorem dX7_grace_22 : decode cX7_grace 22 = .ok (.aload_n 0, 1) := by decide +kernel
theorem dX7_grace_23 : decode cX7_grace 23 = .ok (.iconst 0, 1) := by decide +kernel
theorem dX7_grace_24 : decode cX7_grace 24 = .ok (.putfield 55, 3) := by decide +kernel
theorem dX7_grace_27 : decode cX7_grace 27 = .ok (.aload_n 0, 1) := by decide +kernel
theorem dX7_grace_28 : decode cX7_grace 28 = .ok (.getfield 12, 3) := by decide +kernel
theorem dX7_grace_31 : decode cX7_grace 31 = .ok (.getfield 121, 3) := by decide +kernel
theorem dX7_grace_34 : decode cX7_grace 34 = .ok (.iload_n 1, 1) := by decide +kernel
theorem dX7_grace_35 : decode cX7_grace 35 = .ok (.iload_n 2, 1) := by decide +kernel
theorem dX7_grace_36 : decode cX7_grace 36 = .ok (.invokestatic 124, 3) := by decide +kernel
theorem dX7_grace_39 : decode cX7_grace 39 = .ok (.ireturn, 1) := by decide +kernel
theorem dX7_rate_0 : decode cX7_rate 0 = .ok (.aload_n 0, 1) := by decide +kernel
theorem dX7_rate_1 : decode cX7_rate 1 = .ok (.getfield 19, 3) := by decide +kernel
theorem dX7_rate_4 : decode cX7_rate 4 = .ok (.iload_n 1, 1) := by decide +kernel
theorem dX7_rate_5 : decode cX7_rate 5 = .ok (.invokevirtual 89, 3) := by decide +kernel
theorem dX7_rate_8 : decode cX7_rate 8 = .ok (.ifCond .ne 5, 3) := by decide +kernel
theorem dX7_rate_11 : decode cX7_rate 11 = .ok (.iconst (-1), 1) := by decide +kernel
theorem dX7_rate_12 : decode cX7_rate 12 = .ok (.ireturn, 1) := by decide +kernel
theorem dX7_rate_13 : decode cX7_rate 13 = .ok (.iload_n 2, 1) := by decide +kernel
theorem dX7_rate_14 : decode cX7_rate 14 = .ok (.iconst 1, 1) := by decide +kernel
theorem dX7_rate_15 : decode cX7_rate 15 = .ok (.bipush 60, 2) := by decide +kernel
theorem dX7_rate_17 : decode cX7_rate 17 = .ok (.invokestatic 63, 3) := by decide +kernel
theorem dX7_rate_20 : decode cX7_rate 20 = .ok (.ifCond .ne 6, 3) := by decide +kernel
theorem dX7_rate_23 : decode cX7_rate 23 = .ok (.bipush (-2), 2) := by decide +kernel
theorem dX7_rate_25 : decode cX7_rate 25 = .ok (.ireturn, 1) := by decide +kernel
theorem dX7_rate_26 : decode cX7_rate 26 = .ok (.aload_n 0, 1) := by decide +kernel
theorem dX7_rate_27 : decode cX7_rate 27 = .ok (.iconst 0, 1) := by decide +kernel
theorem dX7_rate_28 : decode cX7_rate 28 = .ok (.putfield 55, 3) := by decide +kernel
theorem dX7_rate_31 : decode cX7_rate 31 = .ok (.aload_n 0, 1) := by decide +kernel
theorem dX7_rate_32 : decode cX7_rate 32 = .ok (.getfield 19, 3) := by decide +kernel
theorem dX7_rate_35 : decode cX7_rate 35 = .ok (.getfield 128, 3) := by decide +kernel
theorem dX7_rate_38 : decode cX7_rate 38 = .ok (.iload_n 1, 1) := by decide +kernel
theorem dX7_rate_39 : decode cX7_rate 39 = .ok (.iload_n 2, 1) := by decide +kernel
theorem dX7_rate_40 : decode cX7_rate 40 = .ok (.invokestatic 124, 3) := by decide +kernel
theorem dX7_rate_43 : decode cX7_rate 43 = .ok (.ireturn, 1) := by decide +kernel
theorem dX7_price_0 : decode cX7_price 0 = .ok (.iload_n 1, 1) := by decide +kernel
theorem dX7_price_1 : decode cX7_price 1 = .ok (.iconst 0, 1) := by decide +kernel
theorem dX7_price_2 : decode cX7_price 2 = .ok (.bipush 23, 2) := by decide +kernel
theorem dX7_price_4 : decode cX7_price 4 = .ok (.invokestatic 63, 3) := by decide +kernel
theorem dX7_price_7 : decode cX7_price 7 = .ok (.ifCond .ne 5, 3) := by decide +kernel
theorem dX7_price_10 : decode cX7_price 10 = .ok (.iconst (-1), 1) := by decide +kernel
theorem dX7_price_11 : decode cX7_price 11 = .ok (.ireturn, 1) := by decide +kernel
theorem dX7_price_12 : decode cX7_price 12 = .ok (.iload_n 2, 1) := by decide +kernel
theorem dX7_price_13 : decode cX7_price 13 = .ok (.iconst 0, 1) := by decide +kernel
theorem dX7_price_14 : decode cX7_price 14 = .ok (.bipush 100, 2) := by decide +kernel
theorem dX7_price_16 : decode cX7_price 16 = .ok (.invokestatic 63, 3) := by decide +kernel
theorem dX7_price_19 : decode cX7_price 19 = .ok (.ifCond .ne 6, 3) := by decide +kernel
theorem dX7_price_22 : decode cX7_price 22 = .ok (.bipush (-2), 2) := by decide +kernel
theorem dX7_price_24 : decode cX7_price 24 = .ok (.ireturn, 1) := by decide +kernel
theorem dX7_price_25 : decode cX7_price 25 = .ok (.aload_n 0, 1) := by decide +kernel
theorem dX7_price_26 : decode cX7_price 26 = .ok (.iconst 0, 1) := by decide +kernel
theorem dX7_price_27 : decode cX7_price 27 = .ok (.putfield 55, 3) := by decide +kernel
theorem dX7_price_30 : decode cX7_price 30 = .ok (.aload_n 0, 1) := by decide +kernel
theorem dX7_price_31 : decode cX7_price 31 = .ok (.getfield 12, 3) := by decide +kernel
theorem dX7_price_34 : decode cX7_price 34 = .ok (.getfield 131, 3) := by decide +kernel
theorem dX7_price_37 : decode cX7_price 37 = .ok (.iload_n 1, 1) := by decide +kernel
theorem dX7_price_38 : decode cX7_price 38 = .ok (.iload_n 2, 1) := by decide +kernel
theorem dX7_price_39 : decode cX7_price 39 = .ok (.invokestatic 124, 3) := by decide +kernel
theorem dX7_price_42 : decode cX7_price 42 = .ok (.ireturn, 1) := by decide +kernel
theorem dX7_wish_0 : decode cX7_wish 0 = .ok (.aload_n 0, 1) := by decide +kernel
theorem dX7_wish_1 : decode cX7_wish 1 = .ok (.iload_n 1, 1) := by decide +kernel
theorem dX7_wish_2 : decode cX7_wish 2 = .ok (.iload_n 2, 1) := by decide +kernel
theorem dX7_wish_3 : decode cX7_wish 3 = .ok (.invokevirtual 134, 3) := by decide +kernel
theorem dX7_wish_6 : decode cX7_wish 6 = .ok (.ifCond .ne 5, 3) := by decide +kernel
theorem dX7_wish_9 : decode cX7_wish 9 = .ok (.iconst (-1), 1) := by decide +kernel
theorem dX7_wish_10 : decode cX7_wish 10 = .ok (.ireturn, 1) := by decide +kernel
theorem dX7_wish_11 : decode cX7_wish 11 = .ok (.iload_n 3, 1) := by decide +kernel
theorem dX7_wish_12 : decode cX7_wish 12 = .ok (.iconst 1, 1) := by decide +kernel
theorem dX7_wish_13 : decode cX7_wish 13 = .ok (.sipush 1000, 3) := by decide +kernel
theorem dX7_wish_16 : decode cX7_wish 16 = .ok (.invokestatic 63, 3) := by decide +kernel
theorem dX7_wish_19 : decode cX7_wish 19 = .ok (.ifCond .eq 14, 3) := by decide +kernel
theorem dX7_wish_22 : decode cX7_wish 22 = .ok (.iload 4, 2) := by decide +kernel
theorem dX7_wish_24 : decode cX7_wish 24 = .ok (.iconst 0, 1) := by decide +kernel
theorem dX7_wish_25 : decode cX7_wish 25 = .ok (.ldc 138, 2) := by decide +kernel
theorem dX7_wish_27 : decode cX7_wish 27 = .ok (.invokestatic 63, 3) := by decide +kernel
theorem dX7_wish_30 : decode cX7_wish 30 = .ok (.ifCond .ne 6, 3) := by decide +kernel
theorem dX7_wish_33 : decode cX7_wish 33 = .ok (.bipush (-2), 2) := by decide +kernel
theorem dX7_wish_35 : decode cX7_wish 35 = .ok (.ireturn, 1) := by decide +kernel
theorem dX7_wish_36 : decode cX7_wish 36 = .ok (.aload_n 0, 1) := by decide +kernel
theorem dX7_wish_37 : decode cX7_wish 37 = .ok (.getfield 26, 3) := by decide +kernel
theorem dX7_wish_40 : decode cX7_wish 40 = .ok (.getfield 70, 3) := by decide +kernel
theorem dX7_wish_43 : decode cX7_wish 43 = .ok (.bipush 20, 2) := by decide +kernel
theorem dX7_wish_45 : decode cX7_wish 45 = .ok (.if_icmp .lt 6, 3) := by decide +kernel
theorem dX7_wish_48 : decode cX7_wish 48 = .ok (.bipush (-4), 2) := by decide +kernel
theorem dX7_wish_50 : decode cX7_wish 50 = .ok (.ireturn, 1) := by decide +kernel
theorem dX7_wish_51 : decode cX7_wish 51 = .ok (.aload_n 0, 1) := by decide +kernel
theorem dX7_wish_52 : decode cX7_wish 52 = .ok (.iconst 0, 1) := by decide +kernel
theorem dX7_wish_53 : decode cX7_wish 53 = .ok (.putfield 55, 3) := by decide +kernel
theorem dX7_wish_56 : decode cX7_wish 56 = .ok (.iload_n 1, 1) := by decide +kernel
theorem dX7_wish_57 : decode cX7_wish 57 = .ok (.iload_n 2, 1) := by decide +kernel
theorem dX7_wish_58 : decode cX7_wish 58 = .ok (.invokestatic 95, 3) := by decide +kernel
theorem dX7_wish_61 : decode cX7_wish 61 = .ok (.istore 5, 2) := by decide +kernel
theorem dX7_wish_63 : decode cX7_wish 63 = .ok (.aload_n 0, 1) := by decide +kernel
theorem dX7_wish_64 : decode cX7_wish 64 = .ok (.getfield 47, 3) := by decide +kernel
theorem dX7_wish_67 : decode cX7_wish 67 = .ok (.getfield 139, 3) := by decide +kernel
theorem dX7_wish_70 : decode cX7_wish 70 = .ok (.aload_n 0, 1) := by decide +kernel
theorem dX7_wish_71 : decode cX7_wish 71 = .ok (.getfield 26, 3) := by decide +kernel
theorem dX7_wish_74 : decode cX7_wish 74 = .ok (.getfield 70, 3) := by decide +kernel
theorem dX7_wish_77 : decode cX7_wish 77 = .ok (.iconst (-1), 1) := by decide +kernel
theorem dX7_wish_78 : decode cX7_wish 78 = .ok (.iastore, 1) := by decide +kernel
theorem dX7_wish_79 : decode cX7_wish 79 = .ok (.aload_n 0, 1) := by decide +kernel
theorem dX7_wish_80 : decode cX7_wish 80 = .ok (.getfield 26, 3) := by decide +kernel
theorem dX7_wish_83 : decode cX7_wish 83 = .ok (.iload 5, 2) := by decide +kernel
theorem dX7_wish_85 : decode cX7_wish 85 = .ok (.iload_n 3, 1) := by decide +kernel
theorem dX7_wish_86 : decode cX7_wish 86 = .ok (.iload 4, 2) := by decide +kernel
theorem dX7_wish_88 : decode cX7_wish 88 = .ok (.aload_n 0, 1) := by decide +kernel
theorem dX7_wish_89 : decode cX7_wish 89 = .ok (.getfield 47, 3) := by decide +kernel
theorem dX7_wish_92 : decode cX7_wish 92 = .ok (.getfield 107, 3) := by decide +kernel
theorem dX7_wish_95 : decode cX7_wish 95 = .ok (.getfield 142, 3) := by decide +kernel
theorem dX7_wish_98 : decode cX7_wish 98 = .ok (.iload 5, 2) := by decide +kernel
theorem dX7_wish_100 : decode cX7_wish 100 = .ok (.iaload, 1) := by decide +kernel
theorem dX7_wish_101 : decode cX7_wish 101 = .ok (.invokevirtual 145, 3) := by decide +kernel
theorem dX7_wish_104 : decode cX7_wish 104 = .ok (.ireturn, 1) := by decide +kernel
theorem dX7_push_0 : decode cX7_push 0 = .ok (.aload_n 0, 1) := by decide +kernel
theorem dX7_push_1 : decode cX7_push 1 = .ok (.iload_n 1, 1) := by decide +kernel
theorem dX7_push_2 : decode cX7_push 2 = .ok (.iload_n 2, 1) := by decide +kernel
theorem dX7_push_3 : decode cX7_push 3 = .ok (.iload_n 3, 1) := by decide +kernel
theorem dX7_push_4 : decode cX7_push 4 = .ok (.iload 4, 2) := by decide +kernel
theorem dX7_push_6 : decode cX7_push 6 = .ok (.invokevirtual 149, 3) := by decide +kernel
theorem dX7_push_9 : decode cX7_push 9 = .ok (.istore 5, 2) := by decide +kernel
theorem dX7_push_11 : decode cX7_push 11 = .ok (.iload 5, 2) := by decide +kernel
theorem dX7_push_13 : decode cX7_push 13 = .ok (.ifCond .lt 13, 3) := by decide +kernel
theorem dX7_push_16 : decode cX7_push 16 = .ok (.aload_n 0, 1) := by decide +kernel
theorem dX7_push_17 : decode cX7_push 17 = .ok (.dup, 1) := by decide +kernel
theorem dX7_push_18 : decode cX7_push 18 = .ok (.getfield 55, 3) := by decide +kernel
theorem dX7_push_21 : decode cX7_push 21 = .ok (.iconst 1, 1) := by decide +kernel
theorem dX7_push_22 : decode cX7_push 22 = .ok (.iadd, 1) := by decide +kernel
theorem dX7_push_23 : decode cX7_push 23 = .ok (.putfield 55, 3) := by decide +kernel
theorem dX7_push_26 : decode cX7_push 26 = .ok (.iload 5, 2) := by decide +kernel
theorem dX7_push_28 : decode cX7_push 28 = .ok (.ireturn, 1) := by decide +kernel
theorem dX7_trial_0 : decode cX7_trial 0 = .ok (.aload_n 0, 1) := by decide +kernel
theorem dX7_trial_1 : decode cX7_trial 1 = .ok (.iload_n 1, 1) := by decide +kernel
theorem dX7_trial_2 : decode cX7_trial 2 = .ok (.iload_n 2, 1) := by decide +kernel
theorem dX7_trial_3 : decode cX7_trial 3 = .ok (.iload_n 3, 1) := by decide +kernel
theorem dX7_trial_4 : decode cX7_trial 4 = .ok (.iload 4, 2) := by decide +kernel
theorem dX7_trial_6 : decode cX7_trial 6 = .ok (.invokevirtual 149, 3) := by decide +kernel
theorem dX7_trial_9 : decode cX7_trial 9 = .ok (.istore 5, 2) := by decide +kernel
theorem dX7_trial_11 : decode cX7_trial 11 = .ok (.iload 5, 2) := by decide +kernel
theorem dX7_trial_13 : decode cX7_trial 13 = .ok (.ifCond .lt 18, 3) := by decide +kernel
theorem dX7_trial_16 : decode cX7_trial 16 = .ok (.aload_n 0, 1) := by decide +kernel
theorem dX7_trial_17 : decode cX7_trial 17 = .ok (.getfield 47, 3) := by decide +kernel
theorem dX7_trial_20 : decode cX7_trial 20 = .ok (.aload_n 0, 1) := by decide +kernel
theorem dX7_trial_21 : decode cX7_trial 21 = .ok (.aload_n 0, 1) := by decide +kernel
theorem dX7_trial_22 : decode cX7_trial 22 = .ok (.getfield 55, 3) := by decide +kernel
theorem dX7_trial_25 : decode cX7_trial 25 = .ok (.invokevirtual 152, 3) := by decide +kernel
theorem dX7_trial_28 : decode cX7_trial 28 = .ok (.invokevirtual 156, 3) := by decide +kernel
theorem dX7_trial_31 : decode cX7_trial 31 = .ok (.iload 5, 2) := by decide +kernel
theorem dX7_trial_33 : decode cX7_trial 33 = .ok (.ireturn, 1) := by decide +kernel
theorem dX7_undo_0 : decode cX7_undo 0 = .ok (.aload_n 0, 1) := by decide +kernel
theorem dX7_undo_1 : decode cX7_undo 1 = .ok (.getfield 55, 3) := by decide +kernel
theorem dX7_undo_4 : decode cX7_undo 4 = .ok (.ifCond .ne 6, 3) := by decide +kernel
theorem dX7_undo_7 : decode cX7_undo 7 = .ok (.bipush (-3), 2) := by decide +kernel
theorem dX7_undo_9 : decode cX7_undo 9 = .ok (.ireturn, 1) := by decide +kernel
theorem dX7_undo_10 : decode cX7_undo 10 = .ok (.aload_n 0, 1) := by decide +kernel
theorem dX7_undo_11 : decode cX7_undo 11 = .ok (.dup, 1) := by decide +kernel
theorem dX7_undo_12 : decode cX7_undo 12 = .ok (.getfield 55, 3) := by decide +kernel
theorem dX7_undo_15 : decode cX7_undo 15 = .ok (.iconst 1, 1) := by decide +kernel
theorem dX7_undo_16 : decode cX7_undo 16 = .ok (.isub, 1) := by decide +kernel
theorem dX7_undo_17 : decode cX7_undo 17 = .ok (.putfield 55, 3) := by decide +kernel
theorem dX7_undo_20 : decode cX7_undo 20 = .ok (.aload_n 0, 1) := by decide +kernel
theorem dX7_undo_21 : decode cX7_undo 21 = .ok (.getfield 47, 3) := by decide +kernel
theorem dX7_undo_24 : decode cX7_undo 24 = .ok (.aload_n 0, 1) := by decide +kernel
theorem dX7_undo_25 : decode cX7_undo 25 = .ok (.aload_n 0, 1) := by decide +kernel
theorem dX7_undo_26 : decode cX7_undo 26 = .ok (.getfield 55, 3) := by decide +kernel
theorem dX7_undo_29 : decode cX7_undo 29 = .ok (.invokevirtual 152, 3) := by decide +kernel
theorem dX7_undo_32 : decode cX7_undo 32 = .ok (.invokevirtual 156, 3) := by decide +kernel
theorem dX7_undo_35 : decode cX7_undo 35 = .ok (.aload_n 0, 1) := by decide +kernel
theorem dX7_undo_36 : decode cX7_undo 36 = .ok (.getfield 47, 3) := by decide +kernel
theorem dX7_undo_39 : decode cX7_undo 39 = .ok (.getfield 160, 3) := by decide +kernel
theorem dX7_undo_42 : decode cX7_undo 42 = .ok (.ireturn, 1) := by decide +kernel
theorem dX7_wait_0 : decode cX7_wait 0 = .ok (.iload_n 1, 1) := by decide +kernel
theorem dX7_wait_1 : decode cX7_wait 1 = .ok (.iconst 0, 1) := by decide +kernel
theorem dX7_wait_2 : decode cX7_wait 2 = .ok (.sipush 1000, 3) := by decide +kernel
theorem dX7_wait_5 : decode cX7_wait 5 = .ok (.invokestatic 63, 3) := by decide +kernel
theorem dX7_wait_8 : decode cX7_wait 8 = .ok (.ifCond .ne 6, 3) := by decide +kernel
theorem dX7_wait_11 : decode cX7_wait 11 = .ok (.bipush (-2), 2) := by decide +kernel
theorem dX7_wait_13 : decode cX7_wait 13 = .ok (.ireturn, 1) := by decide +kernel
theorem dX7_wait_14 : decode cX7_wait 14 = .ok (.aload_n 0, 1) := by decide +kernel
theorem dX7_wait_15 : decode cX7_wait 15 = .ok (.iconst 0, 1) := by decide +kernel
theorem dX7_wait_16 : decode cX7_wait 16 = .ok (.putfield 55, 3) := by decide +kernel
theorem dX7_wait_19 : decode cX7_wait 19 = .ok (.aload_n 0, 1) := by decide +kernel
theorem dX7_wait_20 : decode cX7_wait 20 = .ok (.getfield 47, 3) := by decide +kernel
theorem dX7_wait_23 : decode cX7_wait 23 = .ok (.dup, 1) := by decide +kernel
theorem dX7_wait_24 : decode cX7_wait 24 = .ok (.getfield 163, 3) := by decide +kernel
theorem dX7_wait_27 : decode cX7_wait 27 = .ok (.iload_n 1, 1) := by decide +kernel
theorem dX7_wait_28 : decode cX7_wait 28 = .ok (.iadd, 1) := by decide +kernel
theorem dX7_wait_29 : decode cX7_wait 29 = .ok (.putfield 163, 3) := by decide +kernel
theorem dX7_wait_32 : decode cX7_wait 32 = .ok (.aload_n 0, 1) := by decide +kernel
theorem dX7_wait_33 : decode cX7_wait 33 = .ok (.getfield 47, 3) := by decide +kernel
theorem dX7_wait_36 : decode cX7_wait 36 = .ok (.getfield 163, 3) := by decide +kernel
theorem dX7_wait_39 : decode cX7_wait 39 = .ok (.ireturn, 1) := by decide +kernel
theorem dX7_at_0 : decode cX7_at 0 = .ok (.aload_n 0, 1) := by decide +kernel
theorem dX7_at_1 : decode cX7_at 1 = .ok (.getfield 47, 3) := by decide +kernel
theorem dX7_at_4 : decode cX7_at 4 = .ok (.getfield 73, 3) := by decide +kernel
theorem dX7_at_7 : decode cX7_at 7 = .ok (.astore_n 3, 1) := by decide +kernel
theorem dX7_at_8 : decode cX7_at 8 = .ok (.iload_n 1, 1) := by decide +kernel
theorem dX7_at_9 : decode cX7_at 9 = .ok (.iconst 0, 1) := by decide +kernel
theorem dX7_at_10 : decode cX7_at 10 = .ok (.aload_n 3, 1) := by decide +kernel
theorem dX7_at_11 : decode cX7_at 11 = .ok (.getfield 77, 3) := by decide +kernel
theorem dX7_at_14 : decode cX7_at 14 = .ok (.iconst 1, 1) := by decide +kernel
theorem dX7_at_15 : decode cX7_at 15 = .ok (.isub, 1) := by decide +kernel
theorem dX7_at_16 : decode cX7_at 16 = .ok (.invokestatic 63, 3) := by decide +kernel
theorem dX7_at_19 : decode cX7_at 19 = .ok (.ifCond .ne 5, 3) := by decide +kernel
theorem dX7_at_22 : decode cX7_at 22 = .ok (.iconst (-1), 1) := by decide +kernel
theorem dX7_at_23 : decode cX7_at 23 = .ok (.ireturn, 1) := by decide +kernel
theorem dX7_at_24 : decode cX7_at 24 = .ok (.iload_n 2, 1) := by decide +kernel
theorem dX7_at_25 : decode cX7_at 25 = .ok (.tableswitch 71 0 3 #[31, 38, 45, 52], 31) := by decide +kernel
theorem dX7_at_56 : decode cX7_at 56 = .ok (.aload_n 3, 1) := by decide +kernel
theorem dX7_at_57 : decode cX7_at 57 = .ok (.getfield 166, 3) := by decide +kernel
theorem dX7_at_60 : decode cX7_at 60 = .ok (.iload_n 1, 1) := by decide +kernel
theorem dX7_at_61 : decode cX7_at 61 = .ok (.iaload, 1) := by decide +kernel
theorem dX7_at_62 : decode cX7_at 62 = .ok (.ireturn, 1) := by decide +kernel
theorem dX7_at_63 : decode cX7_at 63 = .ok (.aload_n 3, 1) := by decide +kernel
theorem dX7_at_64 : decode cX7_at 64 = .ok (.getfield 169, 3) := by decide +kernel
theorem dX7_at_67 : decode cX7_at 67 = .ok (.iload_n 1, 1) := by decide +kernel
theorem dX7_at_68 : decode cX7_at 68 = .ok (.iaload, 1) := by decide +kernel
theorem dX7_at_69 : decode cX7_at 69 = .ok (.ireturn, 1) := by decide +kernel
theorem dX7_at_70 : decode cX7_at 70 = .ok (.aload_n 3, 1) := by decide +kernel
theorem dX7_at_71 : decode cX7_at 71 = .ok (.getfield 172, 3) := by decide +kernel
theorem dX7_at_74 : decode cX7_at 74 = .ok (.iload_n 1, 1) := by decide +kernel
theorem dX7_at_75 : decode cX7_at 75 = .ok (.iaload, 1) := by decide +kernel
theorem dX7_at_76 : decode cX7_at 76 = .ok (.ireturn, 1) := by decide +kernel
theorem dX7_at_77 : decode cX7_at 77 = .ok (.aload_n 3, 1) := by decide +kernel
theorem dX7_at_78 : decode cX7_at 78 = .ok (.iload_n 1, 1) := by decide +kernel
theorem dX7_at_79 : decode cX7_at 79 = .ok (.invokevirtual 175, 3) := by decide +kernel
theorem dX7_at_82 : decode cX7_at 82 = .ok (.ifCond .eq 12, 3) := by decide +kernel
theorem dX7_at_85 : decode cX7_at 85 = .ok (.aload_n 3, 1) := by decide +kernel
theorem dX7_at_86 : decode cX7_at 86 = .ok (.getfield 178, 3) := by decide +kernel
theorem dX7_at_89 : decode cX7_at 89 = .ok (.iload_n 1, 1) := by decide +kernel
theorem dX7_at_90 : decode cX7_at 90 = .ok (.iaload, 1) := by decide +kernel
theorem dX7_at_91 : decode cX7_at 91 = .ok (.goto 4, 3) := by decide +kernel
theorem dX7_at_94 : decode cX7_at 94 = .ok (.iconst 0, 1) := by decide +kernel
theorem dX7_at_95 : decode cX7_at 95 = .ok (.ireturn, 1) := by decide +kernel
theorem dX7_at_96 : decode cX7_at 96 = .ok (.iconst (-1), 1) := by decide +kernel
theorem dX7_at_97 : decode cX7_at 97 = .ok (.ireturn, 1) := by decide +kernel
theorem dX7_batch_0 : decode cX7_batch 0 = .ok (.iload_n 1, 1) := by decide +kernel
theorem dX7_batch_1 : decode cX7_batch 1 = .ok (.iconst 0, 1) := by decide +kernel
theorem dX7_batch_2 : decode cX7_batch 2 = .ok (.aload_n 0, 1) := by decide +kernel
theorem dX7_batch_3 : decode cX7_batch 3 = .ok (.getfield 47, 3) := by decide +kernel
theorem dX7_batch_6 : decode cX7_batch 6 = .ok (.getfield 160, 3) := by decide +kernel
theorem dX7_batch_9 : decode cX7_batch 9 = .ok (.iconst 1, 1) := by decide +kernel
theorem dX7_batch_10 : decode cX7_batch 10 = .ok (.isub, 1) := by decide +kernel
theorem dX7_batch_11 : decode cX7_batch 11 = .ok (.invokestatic 63, 3) := by decide +kernel
theorem dX7_batch_14 : decode cX7_batch 14 = .ok (.ifCond .ne 5, 3) := by decide +kernel
theorem dX7_batch_17 : decode cX7_batch 17 = .ok (.iconst (-1), 1) := by decide +kernel
theorem dX7_batch_18 : decode cX7_batch 18 = .ok (.ireturn, 1) := by decide +kernel
theorem dX7_batch_19 : decode cX7_batch 19 = .ok (.iload_n 2, 1) := by decide +kernel
theorem dX7_batch_20 : decode cX7_batch 20 = .ok (.tableswitch 100 0 5 #[40, 47, 59, 71, 83, 93], 40) := by decide +kernel
theorem dX7_batch_60 : decode cX7_batch 60 = .ok (.aload_n 0, 1) := by decide +kernel
theorem dX7_batch_61 : decode cX7_batch 61 = .ok (.getfield 37, 3) := by decide +kernel
theorem dX7_batch_64 : decode cX7_batch 64 = .ok (.iload_n 1, 1) := by decide +kernel
theorem dX7_batch_65 : decode cX7_batch 65 = .ok (.iaload, 1) := by decide +kernel
theorem dX7_batch_66 : decode cX7_batch 66 = .ok (.ireturn, 1) := by decide +kernel
theorem dX7_batch_67 : decode cX7_batch 67 = .ok (.aload_n 0, 1) := by decide +kernel
theorem dX7_batch_68 : decode cX7_batch 68 = .ok (.getfield 47, 3) := by decide +kernel
theorem dX7_batch_71 : decode cX7_batch 71 = .ok (.getfield 73, 3) := by decide +kernel
theorem dX7_batch_74 : decode cX7_batch 74 = .ok (.iload_n 1, 1) := by decide +kernel
theorem dX7_batch_75 : decode cX7_batch 75 = .ok (.invokevirtual 181, 3) := by decide +kernel
theorem dX7_batch_78 : decode cX7_batch 78 = .ok (.ireturn, 1) := by decide +kernel
theorem dX7_batch_79 : decode cX7_batch 79 = .ok (.aload_n 0, 1) := by decide +kernel
theorem dX7_batch_80 : decode cX7_batch 80 = .ok (.getfield 47, 3) := by decide +kernel
theorem dX7_batch_83 : decode cX7_batch 83 = .ok (.getfield 73, 3) := by decide +kernel
theorem dX7_batch_86 : decode cX7_batch 86 = .ok (.iload_n 1, 1) := by decide +kernel
theorem dX7_batch_87 : decode cX7_batch 87 = .ok (.invokevirtual 184, 3) := by decide +kernel
theorem dX7_batch_90 : decode cX7_batch 90 = .ok (.ireturn, 1) := by decide +kernel
theorem dX7_batch_91 : decode cX7_batch 91 = .ok (.aload_n 0, 1) := by decide +kernel
theorem dX7_batch_92 : decode cX7_batch 92 = .ok (.getfield 47, 3) := by decide +kernel
theorem dX7_batch_95 : decode cX7_batch 95 = .ok (.getfield 73, 3) := by decide +kernel
theorem dX7_batch_98 : decode cX7_batch 98 = .ok (.iload_n 1, 1) := by decide +kernel
theorem dX7_batch_99 : decode cX7_batch 99 = .ok (.invokevirtual 187, 3) := by decide +kernel
theorem dX7_batch_102 : decode cX7_batch 102 = .ok (.ireturn, 1) := by decide +kernel
theorem dX7_batch_103 : decode cX7_batch 103 = .ok (.aload_n 0, 1) := by decide +kernel
theorem dX7_batch_104 : decode cX7_batch 104 = .ok (.getfield 47, 3) := by decide +kernel
theorem dX7_batch_107 : decode cX7_batch 107 = .ok (.getfield 190, 3) := by decide +kernel
theorem dX7_batch_110 : decode cX7_batch 110 = .ok (.iload_n 1, 1) := by decide +kernel
theorem dX7_batch_111 : decode cX7_batch 111 = .ok (.iaload, 1) := by decide +kernel
theorem dX7_batch_112 : decode cX7_batch 112 = .ok (.ireturn, 1) := by decide +kernel
theorem dX7_batch_113 : decode cX7_batch 113 = .ok (.aload_n 0, 1) := by decide +kernel
theorem dX7_batch_114 : decode cX7_batch 114 = .ok (.getfield 41, 3) := by decide +kernel
theorem dX7_batch_117 : decode cX7_batch 117 = .ok (.iload_n 1, 1) := by decide +kernel
theorem dX7_batch_118 : decode cX7_batch 118 = .ok (.iaload, 1) := by decide +kernel
theorem dX7_batch_119 : decode cX7_batch 119 = .ok (.ireturn, 1) := by decide +kernel
theorem dX7_batch_120 : decode cX7_batch 120 = .ok (.iconst (-1), 1) := by decide +kernel
theorem dX7_batch_121 : decode cX7_batch 121 = .ok (.ireturn, 1) := by decide +kernel
theorem dX7_tankOf_0 : decode cX7_tankOf 0 = .ok (.aload_n 0, 1) := by decide +kernel
theorem dX7_tankOf_1 : decode cX7_tankOf 1 = .ok (.iload_n 1, 1) := by decide +kernel
theorem dX7_tankOf_2 : decode cX7_tankOf 2 = .ok (.iload_n 2, 1) := by decide +kernel
theorem dX7_tankOf_3 : decode cX7_tankOf 3 = .ok (.invokevirtual 134, 3) := by decide +kernel
theorem dX7_tankOf_6 : decode cX7_tankOf 6 = .ok (.ifCond .ne 5, 3) := by decide +kernel
theorem dX7_tankOf_9 : decode cX7_tankOf 9 = .ok (.iconst (-1), 1) := by decide +kernel
theorem dX7_tankOf_10 : decode cX7_tankOf 10 = .ok (.ireturn, 1) := by decide +kernel
theorem dX7_tankOf_11 : decode cX7_tankOf 11 = .ok (.iload_n 1, 1) := by decide +kernel
theorem dX7_tankOf_12 : decode cX7_tankOf 12 = .ok (.iload_n 2, 1) := by decide +kernel
theorem dX7_tankOf_13 : decode cX7_tankOf 13 = .ok (.invokestatic 95, 3) := by decide +kernel
theorem dX7_tankOf_16 : decode cX7_tankOf 16 = .ok (.istore 4, 2) := by decide +kernel
theorem dX7_tankOf_18 : decode cX7_tankOf 18 = .ok (.iload_n 3, 1) := by decide +kernel
theorem dX7_tankOf_19 : decode cX7_tankOf 19 = .ok (.tableswitch 97 0 4 #[33, 47, 61, 72, 83], 33) := by decide +kernel
theorem dX7_tankOf_52 : decode cX7_tankOf 52 = .ok (.aload_n 0, 1) := by decide +kernel
theorem dX7_tankOf_53 : decode cX7_tankOf 53 = .ok (.getfield 47, 3) := by decide +kernel
theorem dX7_tankOf_56 : decode cX7_tankOf 56 = .ok (.getfield 107, 3) := by decide +kernel
theorem dX7_tankOf_59 : decode cX7_tankOf 59 = .ok (.getfield 193, 3) := by decide +kernel
theorem dX7_tankOf_62 : decode cX7_tankOf 62 = .ok (.iload 4, 2) := by decide +kernel
theorem dX7_tankOf_64 : decode cX7_tankOf 64 = .ok (.iaload, 1) := by decide +kernel
theorem dX7_tankOf_65 : decode cX7_tankOf 65 = .ok (.ireturn, 1) := by decide +kernel
theorem dX7_tankOf_66 : decode cX7_tankOf 66 = .ok (.aload_n 0, 1) := by decide +kernel
theorem dX7_tankOf_67 : decode cX7_tankOf 67 = .ok (.getfield 47, 3) := by decide +kernel
theorem dX7_tankOf_70 : decode cX7_tankOf 70 = .ok (.getfield 107, 3) := by decide +kernel
theorem dX7_tankOf_73 : decode cX7_tankOf 73 = .ok (.getfield 196, 3) := by decide +kernel
theorem dX7_tankOf_76 : decode cX7_tankOf 76 = .ok (.iload 4, 2) := by decide +kernel
theorem dX7_tankOf_78 : decode cX7_tankOf 78 = .ok (.iaload, 1) := by decide +kernel
theorem dX7_tankOf_79 : decode cX7_tankOf 79 = .ok (.ireturn, 1) := by decide +kernel
theorem dX7_tankOf_80 : decode cX7_tankOf 80 = .ok (.aload_n 0, 1) := by decide +kernel
theorem dX7_tankOf_81 : decode cX7_tankOf 81 = .ok (.getfield 19, 3) := by decide +kernel
theorem dX7_tankOf_84 : decode cX7_tankOf 84 = .ok (.getfield 199, 3) := by decide +kernel
theorem dX7_tankOf_87 : decode cX7_tankOf 87 = .ok (.iload 4, 2) := by decide +kernel
theorem dX7_tankOf_89 : decode cX7_tankOf 89 = .ok (.iaload, 1) := by decide +kernel
theorem dX7_tankOf_90 : decode cX7_tankOf 90 = .ok (.ireturn, 1) := by decide +kernel
theorem dX7_tankOf_91 : decode cX7_tankOf 91 = .ok (.aload_n 0, 1) := by decide +kernel
theorem dX7_tankOf_92 : decode cX7_tankOf 92 = .ok (.getfield 19, 3) := by decide +kernel
theorem dX7_tankOf_95 : decode cX7_tankOf 95 = .ok (.getfield 202, 3) := by decide +kernel
theorem dX7_tankOf_98 : decode cX7_tankOf 98 = .ok (.iload 4, 2) := by decide +kernel
theorem dX7_tankOf_100 : decode cX7_tankOf 100 = .ok (.iaload, 1) := by decide +kernel
theorem dX7_tankOf_101 : decode cX7_tankOf 101 = .ok (.ireturn, 1) := by decide +kernel
theorem dX7_tankOf_102 : decode cX7_tankOf 102 = .ok (.aload_n 0, 1) := by decide +kernel
theorem dX7_tankOf_103 : decode cX7_tankOf 103 = .ok (.getfield 47, 3) := by decide +kernel
theorem dX7_tankOf_106 : decode cX7_tankOf 106 = .ok (.getfield 107, 3) := by decide +kernel
theorem dX7_tankOf_109 : decode cX7_tankOf 109 = .ok (.getfield 142, 3) := by decide +kernel
theorem dX7_tankOf_112 : decode cX7_tankOf 112 = .ok (.iload 4, 2) := by decide +kernel
theorem dX7_tankOf_114 : decode cX7_tankOf 114 = .ok (.iaload, 1) := by decide +kernel
theorem dX7_tankOf_115 : decode cX7_tankOf 115 = .ok (.ireturn, 1) := by decide +kernel
theorem dX7_tankOf_116 : decode cX7_tankOf 116 = .ok (.iconst (-1), 1) := by decide +kernel
theorem dX7_tankOf_117 : decode cX7_tankOf 117 = .ok (.ireturn, 1) := by decide +kernel
theorem dX7_about_0 : decode cX7_about 0 = .ok (.aload_n 0, 1) := by decide +kernel
theorem dX7_about_1 : decode cX7_about 1 = .ok (.getfield 19, 3) := by decide +kernel
theorem dX7_about_4 : decode cX7_about 4 = .ok (.iload_n 1, 1) := by decide +kernel
theorem dX7_about_5 : decode cX7_about 5 = .ok (.invokevirtual 89, 3) := by decide +kernel
theorem dX7_about_8 : decode cX7_about 8 = .ok (.ifCond .ne 5, 3) := by decide +kernel
theorem dX7_about_11 : decode cX7_about 11 = .ok (.iconst (-1), 1) := by decide +kernel
theorem dX7_about_12 : decode cX7_about 12 = .ok (.ireturn, 1) := by decide +kernel
theorem dX7_about_13 : decode cX7_about 13 = .ok (.iload_n 2, 1) := by decide +kernel
theorem dX7_about_14 : decode cX7_about 14 = .ok (.tableswitch 59 0 2 #[26, 36, 46], 26) := by decide +kernel
theorem dX7_about_40 : decode cX7_about 40 = .ok (.aload_n 0, 1) := by decide +kernel
theorem dX7_about_41 : decode cX7_about 41 = .ok (.getfield 19, 3) := by decide +kernel
theorem dX7_about_44 : decode cX7_about 44 = .ok (.getfield 205, 3) := by decide +kernel
theorem dX7_about_47 : decode cX7_about 47 = .ok (.iload_n 1, 1) := by decide +kernel
theorem dX7_about_48 : decode cX7_about 48 = .ok (.iaload, 1) := by decide +kernel
theorem dX7_about_49 : decode cX7_about 49 = .ok (.ireturn, 1) := by decide +kernel
theorem dX7_about_50 : decode cX7_about 50 = .ok (.aload_n 0, 1) := by decide +kernel
theorem dX7_about_51 : decode cX7_about 51 = .ok (.getfield 19, 3) := by decide +kernel
theorem dX7_about_54 : decode cX7_about 54 = .ok (.getfield 128, 3) := by decide +kernel
theorem dX7_about_57 : decode cX7_about 57 = .ok (.iload_n 1, 1) := by decide +kernel
theorem dX7_about_58 : decode cX7_about 58 = .ok (.iaload, 1) := by decide +kernel
theorem dX7_about_59 : decode cX7_about 59 = .ok (.ireturn, 1) := by decide +kernel
theorem dX7_about_60 : decode cX7_about 60 = .ok (.aload_n 0, 1) := by decide +kernel
theorem dX7_about_61 : decode cX7_about 61 = .ok (.getfield 47, 3) := by decide +kernel
theorem dX7_about_64 : decode cX7_about 64 = .ok (.getfield 107, 3) := by decide +kernel
theorem dX7_about_67 : decode cX7_about 67 = .ok (.getfield 208, 3) := by decide +kernel
theorem dX7_about_70 : decode cX7_about 70 = .ok (.iload_n 1, 1) := by decide +kernel
theorem dX7_about_71 : decode cX7_about 71 = .ok (.iaload, 1) := by decide +kernel
theorem dX7_about_72 : decode cX7_about 72 = .ok (.ireturn, 1) := by decide +kernel
theorem dX7_about_73 : decode cX7_about 73 = .ok (.iconst (-1), 1) := by decide +kernel
theorem dX7_about_74 : decode cX7_about 74 = .ok (.ireturn, 1) := by decide +kernel
theorem dX7_wished_0 : decode cX7_wished 0 = .ok (.iload_n 1, 1) := by decide +kernel
theorem dX7_wished_1 : decode cX7_wished 1 = .ok (.iconst 0, 1) := by decide +kernel
theorem dX7_wished_2 : decode cX7_wished 2 = .ok (.aload_n 0, 1) := by decide +kernel
theorem dX7_wished_3 : decode cX7_wished 3 = .ok (.getfield 26, 3) := by decide +kernel
theorem dX7_wished_6 : decode cX7_wished 6 = .ok (.getfield 70, 3) := by decide +kernel
theorem dX7_wished_9 : decode cX7_wished 9 = .ok (.iconst 1, 1) := by decide +kernel
theorem dX7_wished_10 : decode cX7_wished 10 = .ok (.isub, 1) := by decide +kernel
theorem dX7_wished_11 : decode cX7_wished 11 = .ok (.invokestatic 63, 3) := by decide +kernel
theorem dX7_wished_14 : decode cX7_wished 14 = .ok (.ifCond .ne 5, 3) := by decide +kernel
theorem dX7_wished_17 : decode cX7_wished 17 = .ok (.iconst (-1), 1) := by decide +kernel
theorem dX7_wished_18 : decode cX7_wished 18 = .ok (.ireturn, 1) := by decide +kernel
theorem dX7_wished_19 : decode cX7_wished 19 = .ok (.iload_n 2, 1) := by decide +kernel
theorem dX7_wished_20 : decode cX7_wished 20 = .ok (.tableswitch 67 0 2 #[28, 38, 51], 28) := by decide +kernel
theorem dX7_wished_48 : decode cX7_wished 48 = .ok (.aload_n 0, 1) := by decide +kernel
theorem dX7_wished_49 : decode cX7_wished 49 = .ok (.getfield 47, 3) := by decide +kernel
theorem dX7_wished_52 : decode cX7_wished 52 = .ok (.getfield 139, 3) := by decide +kernel
theorem dX7_wished_55 : decode cX7_wished 55 = .ok (.iload_n 1, 1) := by decide +kernel
theorem dX7_wished_56 : decode cX7_wished 56 = .ok (.iaload, 1) := by decide +kernel
theorem dX7_wished_57 : decode cX7_wished 57 = .ok (.ireturn, 1) := by decide +kernel
theorem dX7_wished_58 : decode cX7_wished 58 = .ok (.aload_n 0, 1) := by decide +kernel
theorem dX7_wished_59 : decode cX7_wished 59 = .ok (.getfield 26, 3) := by decide +kernel
theorem dX7_wished_62 : decode cX7_wished 62 = .ok (.iload_n 1, 1) := by decide +kernel
theorem dX7_wished_63 : decode cX7_wished 63 = .ok (.aload_n 0, 1) := by decide +kernel
theorem dX7_wished_64 : decode cX7_wished 64 = .ok (.getfield 47, 3) := by decide +kernel
theorem dX7_wished_67 : decode cX7_wished 67 = .ok (.invokevirtual 211, 3) := by decide +kernel
theorem dX7_wished_70 : decode cX7_wished 70 = .ok (.ireturn, 1) := by decide +kernel
theorem dX7_wished_71 : decode cX7_wished 71 = .ok (.aload_n 0, 1) := by decide +kernel
theorem dX7_wished_72 : decode cX7_wished 72 = .ok (.getfield 26, 3) := by decide +kernel
theorem dX7_wished_75 : decode cX7_wished 75 = .ok (.iload_n 1, 1) := by decide +kernel
theorem dX7_wished_76 : decode cX7_wished 76 = .ok (.aload_n 0, 1) := by decide +kernel
theorem dX7_wished_77 : decode cX7_wished 77 = .ok (.getfield 47, 3) := by decide +kernel
theorem dX7_wished_80 : decode cX7_wished 80 = .ok (.getfield 107, 3) := by decide +kernel
theorem dX7_wished_83 : decode cX7_wished 83 = .ok (.invokevirtual 215, 3) := by decide +kernel
theorem dX7_wished_86 : decode cX7_wished 86 = .ok (.ireturn, 1) := by decide +kernel
theorem dX7_wished_87 : decode cX7_wished 87 = .ok (.iconst (-1), 1) := by decide +kernel
theorem dX7_wished_88 : decode cX7_wished 88 = .ok (.ireturn, 1) := by decide +kernel
theorem dX7_count_0 : decode cX7_count 0 = .ok (.iload_n 1, 1) := by decide +kernel
theorem dX7_count_1 : decode cX7_count 1 = .ok (.tableswitch 133 0 8 #[51, 59, 67, 75, 86, 97, 108, 116, 128], 51) := by decide +kernel
theorem dX7_count_52 : decode cX7_count 52 = .ok (.aload_n 0, 1) := by decide +kernel
theorem dX7_count_53 : decode cX7_count 53 = .ok (.getfield 47, 3) := by decide +kernel
theorem dX7_count_56 : decode cX7_count 56 = .ok (.getfield 163, 3) := by decide +kernel
theorem dX7_count_59 : decode cX7_count 59 = .ok (.ireturn, 1) := by decide +kernel
theorem dX7_count_60 : decode cX7_count 60 = .ok (.aload_n 0, 1) := by decide +kernel
theorem dX7_count_61 : decode cX7_count 61 = .ok (.getfield 47, 3) := by decide +kernel
theorem dX7_count_64 : decode cX7_count 64 = .ok (.getfield 219, 3) := by decide +kernel
theorem dX7_count_67 : decode cX7_count 67 = .ok (.ireturn, 1) := by decide +kernel
theorem dX7_count_68 : decode cX7_count 68 = .ok (.aload_n 0, 1) := by decide +kernel
theorem dX7_count_69 : decode cX7_count 69 = .ok (.getfield 47, 3) := by decide +kernel
theorem dX7_count_72 : decode cX7_count 72 = .ok (.getfield 160, 3) := by decide +kernel
theorem dX7_count_75 : decode cX7_count 75 = .ok (.ireturn, 1) := by decide +kernel
theorem dX7_count_76 : decode cX7_count 76 = .ok (.aload_n 0, 1) := by decide +kernel
theorem dX7_count_77 : decode cX7_count 77 = .ok (.getfield 47, 3) := by decide +kernel
theorem dX7_count_80 : decode cX7_count 80 = .ok (.getfield 73, 3) := by decide +kernel
theorem dX7_count_83 : decode cX7_count 83 = .ok (.invokevirtual 222, 3) := by decide +kernel
theorem dX7_count_86 : decode cX7_count 86 = .ok (.ireturn, 1) := by decide +kernel
theorem dX7_count_87 : decode cX7_count 87 = .ok (.aload_n 0, 1) := by decide +kernel
theorem dX7_count_88 : decode cX7_count 88 = .ok (.getfield 47, 3) := by decide +kernel
theorem dX7_count_91 : decode cX7_count 91 = .ok (.getfield 107, 3) := by decide +kernel
theorem dX7_count_94 : decode cX7_count 94 = .ok (.invokevirtual 226, 3) := by decide +kernel
theorem dX7_count_97 : decode cX7_count 97 = .ok (.ireturn, 1) := by decide +kernel
theorem dX7_count_98 : decode cX7_count 98 = .ok (.aload_n 0, 1) := by decide +kernel
theorem dX7_count_99 : decode cX7_count 99 = .ok (.getfield 47, 3) := by decide +kernel
theorem dX7_count_102 : decode cX7_count 102 = .ok (.getfield 73, 3) := by decide +kernel
theorem dX7_count_105 : decode cX7_count 105 = .ok (.getfield 77, 3) := by decide +kernel
theorem dX7_count_108 : decode cX7_count 108 = .ok (.ireturn, 1) := by decide +kernel
theorem dX7_count_109 : decode cX7_count 109 = .ok (.aload_n 0, 1) := by decide +kernel
theorem dX7_count_110 : decode cX7_count 110 = .ok (.getfield 19, 3) := by decide +kernel
theorem dX7_count_113 : decode cX7_count 113 = .ok (.getfield 84, 3) := by decide +kernel
theorem dX7_count_116 : decode cX7_count 116 = .ok (.ireturn, 1) := by decide +kernel
theorem dX7_count_117 : decode cX7_count 117 = .ok (.aload_n 0, 1) := by decide +kernel
theorem dX7_count_118 : decode cX7_count 118 = .ok (.getfield 26, 3) := by decide +kernel
theorem dX7_count_121 : decode cX7_count 121 = .ok (.aload_n 0, 1) := by decide +kernel
theorem dX7_count_122 : decode cX7_count 122 = .ok (.getfield 47, 3) := by decide +kernel
theorem dX7_count_125 : decode cX7_count 125 = .ok (.invokevirtual 229, 3) := by decide +kernel
theorem dX7_count_128 : decode cX7_count 128 = .ok (.ireturn, 1) := by decide +kernel
theorem dX7_count_129 : decode cX7_count 129 = .ok (.aload_n 0, 1) := by decide +kernel
theorem dX7_count_130 : decode cX7_count 130 = .ok (.getfield 55, 3) := by decide +kernel
theorem dX7_count_133 : decode cX7_count 133 = .ok (.ireturn, 1) := by decide +kernel
theorem dX7_count_134 : decode cX7_count 134 = .ok (.iconst (-1), 1) := by decide +kernel
theorem dX7_count_135 : decode cX7_count 135 = .ok (.ireturn, 1) := by decide +kernel
theorem dX7_borders_0 : decode cX7_borders 0 = .ok (.aload_n 0, 1) := by decide +kernel
theorem dX7_borders_1 : decode cX7_borders 1 = .ok (.getfield 47, 3) := by decide +kernel
theorem dX7_borders_4 : decode cX7_borders 4 = .ok (.getfield 73, 3) := by decide +kernel
theorem dX7_borders_7 : decode cX7_borders 7 = .ok (.invokevirtual 233, 3) := by decide +kernel
theorem dX7_borders_10 : decode cX7_borders 10 = .ok (.ireturn, 1) := by decide +kernel
theorem dX7_attempt_0 : decode cX7_attempt 0 = .ok (.aload_n 0, 1) := by decide +kernel
theorem dX7_attempt_1 : decode cX7_attempt 1 = .ok (.getfield 19, 3) := by decide +kernel
theorem dX7_attempt_4 : decode cX7_attempt 4 = .ok (.iload_n 1, 1) := by decide +kernel
theorem dX7_attempt_5 : decode cX7_attempt 5 = .ok (.invokevirtual 89, 3) := by decide +kernel
theorem dX7_attempt_8 : decode cX7_attempt 8 = .ok (.ifCond .eq 21, 3) := by decide +kernel
theorem dX7_attempt_11 : decode cX7_attempt 11 = .ok (.aload_n 0, 1) := by decide +kernel
theorem dX7_attempt_12 : decode cX7_attempt 12 = .ok (.getfield 19, 3) := by decide +kernel
theorem dX7_attempt_15 : decode cX7_attempt 15 = .ok (.iload_n 2, 1) := by decide +kernel
theorem dX7_attempt_16 : decode cX7_attempt 16 = .ok (.invokevirtual 89, 3) := by decide +kernel
theorem dX7_attempt_19 : decode cX7_attempt 19 = .ok (.ifCond .eq 10, 3) := by decide +kernel
theorem dX7_attempt_22 : decode cX7_attempt 22 = .ok (.iload_n 3, 1) := by decide +kernel
theorem dX7_attempt_23 : decode cX7_attempt 23 = .ok (.invokestatic 92, 3) := by decide +kernel
theorem dX7_attempt_26 : decode cX7_attempt 26 = .ok (.ifCond .ne 5, 3) := by decide +kernel
theorem dX7_attempt_29 : decode cX7_attempt 29 = .ok (.iconst (-1), 1) := by decide +kernel
theorem dX7_attempt_30 : decode cX7_attempt 30 = .ok (.ireturn, 1) := by decide +kernel
theorem dX7_attempt_31 : decode cX7_attempt 31 = .ok (.aload_n 0, 1) := by decide +kernel
theorem dX7_attempt_32 : decode cX7_attempt 32 = .ok (.getfield 19, 3) := by decide +kernel
theorem dX7_attempt_35 : decode cX7_attempt 35 = .ok (.getfield 205, 3) := by decide +kernel
theorem dX7_attempt_38 : decode cX7_attempt 38 = .ok (.iload_n 2, 1) := by decide +kernel
theorem dX7_attempt_39 : decode cX7_attempt 39 = .ok (.iaload, 1) := by decide +kernel
theorem dX7_attempt_40 : decode cX7_attempt 40 = .ok (.aload_n 0, 1) := by decide +kernel
theorem dX7_attempt_41 : decode cX7_attempt 41 = .ok (.getfield 19, 3) := by decide +kernel
theorem dX7_attempt_44 : decode cX7_attempt 44 = .ok (.getfield 205, 3) := by decide +kernel
theorem dX7_attempt_47 : decode cX7_attempt 47 = .ok (.iload_n 1, 1) := by decide +kernel
theorem dX7_attempt_48 : decode cX7_attempt 48 = .ok (.iaload, 1) := by decide +kernel
theorem dX7_attempt_49 : decode cX7_attempt 49 = .ok (.if_icmp .le 14, 3) := by decide +kernel
theorem dX7_attempt_52 : decode cX7_attempt 52 = .ok (.iload 4, 2) := by decide +kernel
theorem dX7_attempt_54 : decode cX7_attempt 54 = .ok (.iconst 1, 1) := by decide +kernel
theorem dX7_attempt_55 : decode cX7_attempt 55 = .ok (.bipush 60, 2) := by decide +kernel
theorem dX7_attempt_57 : decode cX7_attempt 57 = .ok (.invokestatic 63, 3) := by decide +kernel
theorem dX7_attempt_60 : decode cX7_attempt 60 = .ok (.ifCond .ne 6, 3) := by decide +kernel
theorem dX7_attempt_63 : decode cX7_attempt 63 = .ok (.bipush (-2), 2) := by decide +kernel
theorem dX7_attempt_65 : decode cX7_attempt 65 = .ok (.ireturn, 1) := by decide +kernel
theorem dX7_attempt_66 : decode cX7_attempt 66 = .ok (.aload_n 0, 1) := by decide +kernel
theorem dX7_attempt_67 : decode cX7_attempt 67 = .ok (.getfield 47, 3) := by decide +kernel
theorem dX7_attempt_70 : decode cX7_attempt 70 = .ok (.getfield 160, 3) := by decide +kernel
theorem dX7_attempt_73 : decode cX7_attempt 73 = .ok (.sipush 200, 3) := by decide +kernel
theorem dX7_attempt_76 : decode cX7_attempt 76 = .ok (.if_icmp .lt 6, 3) := by decide +kernel
theorem dX7_attempt_79 : decode cX7_attempt 79 = .ok (.bipush (-4), 2) := by decide +kernel
theorem dX7_attempt_81 : decode cX7_attempt 81 = .ok (.ireturn, 1) := by decide +kernel
theorem dX7_attempt_82 : decode cX7_attempt 82 = .ok (.aload_n 0, 1) := by decide +kernel
theorem dX7_attempt_83 : decode cX7_attempt 83 = .ok (.aload_n 0, 1) := by decide +kernel
theorem dX7_attempt_84 : decode cX7_attempt 84 = .ok (.getfield 55, 3) := by decide +kernel
theorem dX7_attempt_87 : decode cX7_attempt 87 = .ok (.invokevirtual 152, 3) := by decide +kernel
theorem dX7_attempt_90 : decode cX7_attempt 90 = .ok (.astore 5, 2) := by decide +kernel
theorem dX7_attempt_92 : decode cX7_attempt 92 = .ok (.aload 5, 2) := by decide +kernel
theorem dX7_attempt_94 : decode cX7_attempt 94 = .ok (.aload_n 0, 1) := by decide +kernel
theorem dX7_attempt_95 : decode cX7_attempt 95 = .ok (.getfield 47, 3) := by decide +kernel
theorem dX7_attempt_98 : decode cX7_attempt 98 = .ok (.invokevirtual 156, 3) := by decide +kernel
theorem dX7_attempt_101 : decode cX7_attempt 101 = .ok (.aload_n 0, 1) := by decide +kernel
theorem dX7_attempt_102 : decode cX7_attempt 102 = .ok (.getfield 33, 3) := by decide +kernel
theorem dX7_attempt_105 : decode cX7_attempt 105 = .ok (.iload_n 1, 1) := by decide +kernel
theorem dX7_attempt_106 : decode cX7_attempt 106 = .ok (.iload_n 2, 1) := by decide +kernel
theorem dX7_attempt_107 : decode cX7_attempt 107 = .ok (.iload_n 3, 1) := by decide +kernel
theorem dX7_attempt_108 : decode cX7_attempt 108 = .ok (.aload_n 0, 1) := by decide +kernel
theorem dX7_attempt_109 : decode cX7_attempt 109 = .ok (.getfield 19, 3) := by decide +kernel
theorem dX7_attempt_112 : decode cX7_attempt 112 = .ok (.invokevirtual 236, 3) := by decide +kernel
theorem dX7_attempt_115 : decode cX7_attempt 115 = .ok (.aload_n 0, 1) := by decide +kernel
theorem dX7_attempt_116 : decode cX7_attempt 116 = .ok (.getfield 47, 3) := by decide +kernel
theorem dX7_attempt_119 : decode cX7_attempt 119 = .ok (.aload_n 0, 1) := by decide +kernel
theorem dX7_attempt_120 : decode cX7_attempt 120 = .ok (.getfield 33, 3) := by decide +kernel
theorem dX7_attempt_123 : decode cX7_attempt 123 = .ok (.iload 4, 2) := by decide +kernel
theorem dX7_attempt_125 : decode cX7_attempt 125 = .ok (.aload_n 0, 1) := by decide +kernel
theorem dX7_attempt_126 : decode cX7_attempt 126 = .ok (.getfield 19, 3) := by decide +kernel
theorem dX7_attempt_129 : decode cX7_attempt 129 = .ok (.aload_n 0, 1) := by decide +kernel
theorem dX7_attempt_130 : decode cX7_attempt 130 = .ok (.getfield 12, 3) := by decide +kernel
theorem dX7_attempt_133 : decode cX7_attempt 133 = .ok (.invokevirtual 240, 3) := by decide +kernel
theorem dX7_attempt_136 : decode cX7_attempt 136 = .ok (.istore 6, 2) := by decide +kernel
theorem dX7_attempt_138 : decode cX7_attempt 138 = .ok (.iload 6, 2) := by decide +kernel
theorem dX7_attempt_140 : decode cX7_attempt 140 = .ok (.ifCond .eq 18, 3) := by decide +kernel
theorem dX7_attempt_143 : decode cX7_attempt 143 = .ok (.aload_n 0, 1) := by decide +kernel
theorem dX7_attempt_144 : decode cX7_attempt 144 = .ok (.getfield 47, 3) := by decide +kernel
theorem dX7_attempt_147 : decode cX7_attempt 147 = .ok (.aload 5, 2) := by decide +kernel
theorem dX7_attempt_149 : decode cX7_attempt 149 = .ok (.invokevirtual 156, 3) := by decide +kernel
theorem dX7_attempt_152 : decode cX7_attempt 152 = .ok (.bipush (-10), 2) := by decide +kernel
theorem dX7_attempt_154 : decode cX7_attempt 154 = .ok (.iload 6, 2) := by decide +kernel
theorem dX7_attempt_156 : decode cX7_attempt 156 = .ok (.isub, 1) := by decide +kernel
theorem dX7_attempt_157 : decode cX7_attempt 157 = .ok (.ireturn, 1) := by decide +kernel
theorem dX7_attempt_158 : decode cX7_attempt 158 = .ok (.aload_n 0, 1) := by decide +kernel
theorem dX7_attempt_159 : decode cX7_attempt 159 = .ok (.getfield 47, 3) := by decide +kernel
theorem dX7_attempt_162 : decode cX7_attempt 162 = .ok (.aload_n 0, 1) := by decide +kernel
theorem dX7_attempt_163 : decode cX7_attempt 163 = .ok (.iload_n 1, 1) := by decide +kernel
theorem dX7_attempt_164 : decode cX7_attempt 164 = .ok (.iload_n 2, 1) := by decide +kernel
theorem dX7_attempt_165 : decode cX7_attempt 165 = .ok (.iload 4, 2) := by decide +kernel
theorem dX7_attempt_167 : decode cX7_attempt 167 = .ok (.invokevirtual 244, 3) := by decide +kernel
theorem dX7_attempt_170 : decode cX7_attempt 170 = .ok (.aload_n 0, 1) := by decide +kernel
theorem dX7_attempt_171 : decode cX7_attempt 171 = .ok (.getfield 12, 3) := by decide +kernel
theorem dX7_attempt_174 : decode cX7_attempt 174 = .ok (.invokevirtual 248, 3) := by decide +kernel
theorem dX7_attempt_177 : decode cX7_attempt 177 = .ok (.aload_n 0, 1) := by decide +kernel
theorem dX7_attempt_178 : decode cX7_attempt 178 = .ok (.getfield 26, 3) := by decide +kernel
theorem dX7_attempt_181 : decode cX7_attempt 181 = .ok (.aload_n 0, 1) := by decide +kernel
theorem dX7_attempt_182 : decode cX7_attempt 182 = .ok (.getfield 47, 3) := by decide +kernel
theorem dX7_attempt_185 : decode cX7_attempt 185 = .ok (.invokevirtual 252, 3) := by decide +kernel
theorem dX7_attempt_188 : decode cX7_attempt 188 = .ok (.aload_n 0, 1) := by decide +kernel
theorem dX7_attempt_189 : decode cX7_attempt 189 = .ok (.iload_n 3, 1) := by decide +kernel
theorem dX7_attempt_190 : decode cX7_attempt 190 = .ok (.iload_n 1, 1) := by decide +kernel
theorem dX7_attempt_191 : decode cX7_attempt 191 = .ok (.invokevirtual 255, 3) := by decide +kernel
theorem dX7_attempt_194 : decode cX7_attempt 194 = .ok (.ireturn, 1) := by decide +kernel
theorem dX7_register_0 : decode cX7_register 0 = .ok (.aload_n 0, 1) := by decide +kernel
theorem dX7_register_1 : decode cX7_register 1 = .ok (.getfield 47, 3) := by decide +kernel
theorem dX7_register_4 : decode cX7_register 4 = .ok (.getfield 160, 3) := by decide +kernel
theorem dX7_register_7 : decode cX7_register 7 = .ok (.istore_n 3, 1) := by decide +kernel
theorem dX7_register_8 : decode cX7_register 8 = .ok (.aload_n 0, 1) := by decide +kernel
theorem dX7_register_9 : decode cX7_register 9 = .ok (.getfield 37, 3) := by decide +kernel
theorem dX7_register_12 : decode cX7_register 12 = .ok (.iload_n 3, 1) := by decide +kernel
theorem dX7_register_13 : decode cX7_register 13 = .ok (.iload_n 1, 1) := by decide +kernel
theorem dX7_register_14 : decode cX7_register 14 = .ok (.iastore, 1) := by decide +kernel
theorem dX7_register_15 : decode cX7_register 15 = .ok (.aload_n 0, 1) := by decide +kernel
theorem dX7_register_16 : decode cX7_register 16 = .ok (.getfield 41, 3) := by decide +kernel
theorem dX7_register_19 : decode cX7_register 19 = .ok (.iload_n 3, 1) := by decide +kernel
theorem dX7_register_20 : decode cX7_register 20 = .ok (.iload_n 2, 1) := by decide +kernel
theorem dX7_register_21 : decode cX7_register 21 = .ok (.iastore, 1) := by decide +kernel
theorem dX7_register_22 : decode cX7_register 22 = .ok (.aload_n 0, 1) := by decide +kernel
theorem dX7_register_23 : decode cX7_register 23 = .ok (.getfield 47, 3) := by decide +kernel
theorem dX7_register_26 : decode cX7_register 26 = .ok (.iload_n 3, 1) := by decide +kernel
theorem dX7_register_27 : decode cX7_register 27 = .ok (.iconst 1, 1) := by decide +kernel
theorem dX7_register_28 : decode cX7_register 28 = .ok (.iadd, 1) := by decide +kernel
theorem dX7_register_29 : decode cX7_register 29 = .ok (.putfield 160, 3) := by decide +kernel
end
section
theorem dX7_register_32 : decode cX7_register 32 = .ok (.iload_n 3, 1) := by decide +kernel
theorem dX7_register_33 : decode cX7_register 33 = .ok (.ireturn, 1) := by decide +kernel
theorem dX7_hoursFor_0 : decode cX7_hoursFor 0 = .ok (.iconst 1, 1) := by decide +kernel
theorem dX7_hoursFor_1 : decode cX7_hoursFor 1 = .ok (.aload_n 0, 1) := by decide +kernel
theorem dX7_hoursFor_2 : decode cX7_hoursFor 2 = .ok (.getfield 19, 3) := by decide +kernel
theorem dX7_hoursFor_5 : decode cX7_hoursFor 5 = .ok (.getfield 128, 3) := by decide +kernel
theorem dX7_hoursFor_8 : decode cX7_hoursFor 8 = .ok (.iload_n 1, 1) := by decide +kernel
theorem dX7_hoursFor_9 : decode cX7_hoursFor 9 = .ok (.iaload, 1) := by decide +kernel
theorem dX7_hoursFor_10 : decode cX7_hoursFor 10 = .ok (.aload_n 0, 1) := by decide +kernel
theorem dX7_hoursFor_11 : decode cX7_hoursFor 11 = .ok (.getfield 19, 3) := by decide +kernel
theorem dX7_hoursFor_14 : decode cX7_hoursFor 14 = .ok (.getfield 128, 3) := by decide +kernel
theorem dX7_hoursFor_17 : decode cX7_hoursFor 17 = .ok (.iload_n 2, 1) := by decide +kernel
theorem dX7_hoursFor_18 : decode cX7_hoursFor 18 = .ok (.iaload, 1) := by decide +kernel
theorem dX7_hoursFor_19 : decode cX7_hoursFor 19 = .ok (.invokestatic 258, 3) := by decide +kernel
theorem dX7_hoursFor_22 : decode cX7_hoursFor 22 = .ok (.invokestatic 263, 3) := by decide +kernel
theorem dX7_hoursFor_25 : decode cX7_hoursFor 25 = .ok (.istore 4, 2) := by decide +kernel
theorem dX7_hoursFor_27 : decode cX7_hoursFor 27 = .ok (.iload_n 3, 1) := by decide +kernel
theorem dX7_hoursFor_28 : decode cX7_hoursFor 28 = .ok (.iload 4, 2) := by decide +kernel
theorem dX7_hoursFor_30 : decode cX7_hoursFor 30 = .ok (.iadd, 1) := by decide +kernel
theorem dX7_hoursFor_31 : decode cX7_hoursFor 31 = .ok (.iconst 1, 1) := by decide +kernel
theorem dX7_hoursFor_32 : decode cX7_hoursFor 32 = .ok (.isub, 1) := by decide +kernel
theorem dX7_hoursFor_33 : decode cX7_hoursFor 33 = .ok (.iload 4, 2) := by decide +kernel
theorem dX7_hoursFor_35 : decode cX7_hoursFor 35 = .ok (.idiv, 1) := by decide +kernel
theorem dX7_hoursFor_36 : decode cX7_hoursFor 36 = .ok (.ireturn, 1) := by decide +kernel
theorem dX7_earlierAt_0 : decode cX7_earlierAt 0 = .ok (.iconst 0, 1) := by decide +kernel
theorem dX7_earlierAt_1 : decode cX7_earlierAt 1 = .ok (.iload_n 1, 1) := by decide +kernel
theorem dX7_earlierAt_2 : decode cX7_earlierAt 2 = .ok (.sipush 199, 3) := by decide +kernel
theorem dX7_earlierAt_5 : decode cX7_earlierAt 5 = .ok (.invokestatic 258, 3) := by decide +kernel
theorem dX7_earlierAt_8 : decode cX7_earlierAt 8 = .ok (.invokestatic 263, 3) := by decide +kernel
theorem dX7_earlierAt_11 : decode cX7_earlierAt 11 = .ok (.istore_n 2, 1) := by decide +kernel
theorem dX7_earlierAt_12 : decode cX7_earlierAt 12 = .ok (.aload_n 0, 1) := by decide +kernel
theorem dX7_earlierAt_13 : decode cX7_earlierAt 13 = .ok (.getfield 51, 3) := by decide +kernel
theorem dX7_earlierAt_16 : decode cX7_earlierAt 16 = .ok (.iload_n 2, 1) := by decide +kernel
theorem dX7_earlierAt_17 : decode cX7_earlierAt 17 = .ok (.aaload, 1) := by decide +kernel
theorem dX7_earlierAt_18 : decode cX7_earlierAt 18 = .ok (.ifnonnull 16, 3) := by decide +kernel
theorem dX7_earlierAt_21 : decode cX7_earlierAt 21 = .ok (.aload_n 0, 1) := by decide +kernel
theorem dX7_earlierAt_22 : decode cX7_earlierAt 22 = .ok (.getfield 51, 3) := by decide +kernel
theorem dX7_earlierAt_25 : decode cX7_earlierAt 25 = .ok (.iload_n 2, 1) := by decide +kernel
theorem dX7_earlierAt_26 : decode cX7_earlierAt 26 = .ok (.new 44, 3) := by decide +kernel
theorem dX7_earlierAt_29 : decode cX7_earlierAt 29 = .ok (.dup, 1) := by decide +kernel
theorem dX7_earlierAt_30 : decode cX7_earlierAt 30 = .ok (.invokespecial 46, 3) := by decide +kernel
theorem dX7_earlierAt_33 : decode cX7_earlierAt 33 = .ok (.aastore, 1) := by decide +kernel
theorem dX7_earlierAt_34 : decode cX7_earlierAt 34 = .ok (.aload_n 0, 1) := by decide +kernel
theorem dX7_earlierAt_35 : decode cX7_earlierAt 35 = .ok (.getfield 51, 3) := by decide +kernel
theorem dX7_earlierAt_38 : decode cX7_earlierAt 38 = .ok (.iload_n 2, 1) := by decide +kernel
theorem dX7_earlierAt_39 : decode cX7_earlierAt 39 = .ok (.aaload, 1) := by decide +kernel
theorem dX7_earlierAt_40 : decode cX7_earlierAt 40 = .ok (.areturn, 1) := by decide +kernel
theorem dX7_hasTank_0 : decode cX7_hasTank 0 = .ok (.aload_n 0, 1) := by decide +kernel
theorem dX7_hasTank_1 : decode cX7_hasTank 1 = .ok (.getfield 19, 3) := by decide +kernel
theorem dX7_hasTank_4 : decode cX7_hasTank 4 = .ok (.iload_n 1, 1) := by decide +kernel
theorem dX7_hasTank_5 : decode cX7_hasTank 5 = .ok (.invokevirtual 89, 3) := by decide +kernel
theorem dX7_hasTank_8 : decode cX7_hasTank 8 = .ok (.ifCond .eq 30, 3) := by decide +kernel
theorem dX7_hasTank_11 : decode cX7_hasTank 11 = .ok (.iload_n 2, 1) := by decide +kernel
theorem dX7_hasTank_12 : decode cX7_hasTank 12 = .ok (.invokestatic 92, 3) := by decide +kernel
theorem dX7_hasTank_15 : decode cX7_hasTank 15 = .ok (.ifCond .eq 23, 3) := by decide +kernel
theorem dX7_hasTank_18 : decode cX7_hasTank 18 = .ok (.aload_n 0, 1) := by decide +kernel
theorem dX7_hasTank_19 : decode cX7_hasTank 19 = .ok (.getfield 19, 3) := by decide +kernel
theorem dX7_hasTank_22 : decode cX7_hasTank 22 = .ok (.getfield 99, 3) := by decide +kernel
theorem dX7_hasTank_25 : decode cX7_hasTank 25 = .ok (.iload_n 1, 1) := by decide +kernel
theorem dX7_hasTank_26 : decode cX7_hasTank 26 = .ok (.iload_n 2, 1) := by decide +kernel
theorem dX7_hasTank_27 : decode cX7_hasTank 27 = .ok (.invokestatic 95, 3) := by decide +kernel
theorem dX7_hasTank_30 : decode cX7_hasTank 30 = .ok (.baload, 1) := by decide +kernel
theorem dX7_hasTank_31 : decode cX7_hasTank 31 = .ok (.ifCond .eq 7, 3) := by decide +kernel
theorem dX7_hasTank_34 : decode cX7_hasTank 34 = .ok (.iconst 1, 1) := by decide +kernel
theorem dX7_hasTank_35 : decode cX7_hasTank 35 = .ok (.goto 4, 3) := by decide +kernel
theorem dX7_hasTank_38 : decode cX7_hasTank 38 = .ok (.iconst 0, 1) := by decide +kernel
theorem dX7_hasTank_39 : decode cX7_hasTank 39 = .ok (.ireturn, 1) := by decide +kernel
theorem dX7_isKind_0 : decode cX7_isKind 0 = .ok (.iload_n 0, 1) := by decide +kernel
theorem dX7_isKind_1 : decode cX7_isKind 1 = .ok (.iconst 0, 1) := by decide +kernel
theorem dX7_isKind_2 : decode cX7_isKind 2 = .ok (.bipush 7, 2) := by decide +kernel
theorem dX7_isKind_4 : decode cX7_isKind 4 = .ok (.invokestatic 63, 3) := by decide +kernel
theorem dX7_isKind_7 : decode cX7_isKind 7 = .ok (.ireturn, 1) := by decide +kernel
theorem dX7_within_0 : decode cX7_within 0 = .ok (.iload_n 1, 1) := by decide +kernel
theorem dX7_within_1 : decode cX7_within 1 = .ok (.iload_n 0, 1) := by decide +kernel
theorem dX7_within_2 : decode cX7_within 2 = .ok (.if_icmp .gt 12, 3) := by decide +kernel
theorem dX7_within_5 : decode cX7_within 5 = .ok (.iload_n 0, 1) := by decide +kernel
theorem dX7_within_6 : decode cX7_within 6 = .ok (.iload_n 2, 1) := by decide +kernel
theorem dX7_within_7 : decode cX7_within 7 = .ok (.if_icmp .gt 7, 3) := by decide +kernel
theorem dX7_within_10 : decode cX7_within 10 = .ok (.iconst 1, 1) := by decide +kernel
theorem dX7_within_11 : decode cX7_within 11 = .ok (.goto 4, 3) := by decide +kernel
theorem dX7_within_14 : decode cX7_within 14 = .ok (.iconst 0, 1) := by decide +kernel
theorem dX7_within_15 : decode cX7_within 15 = .ok (.ireturn, 1) := by decide +kernel
theorem dX7_tankNumber_0 : decode cX7_tankNumber 0 = .ok (.iload_n 0, 1) := by decide +kernel
theorem dX7_tankNumber_1 : decode cX7_tankNumber 1 = .ok (.bipush 8, 2) := by decide +kernel
theorem dX7_tankNumber_3 : decode cX7_tankNumber 3 = .ok (.imul, 1) := by decide +kernel
theorem dX7_tankNumber_4 : decode cX7_tankNumber 4 = .ok (.iload_n 1, 1) := by decide +kernel
theorem dX7_tankNumber_5 : decode cX7_tankNumber 5 = .ok (.iadd, 1) := by decide +kernel
theorem dX7_tankNumber_6 : decode cX7_tankNumber 6 = .ok (.ireturn, 1) := by decide +kernel
theorem dX7_exchange_0 : decode cX7_exchange 0 = .ok (.aload_n 0, 1) := by decide +kernel
theorem dX7_exchange_1 : decode cX7_exchange 1 = .ok (.iload_n 1, 1) := by decide +kernel
theorem dX7_exchange_2 : decode cX7_exchange 2 = .ok (.iaload, 1) := by decide +kernel
theorem dX7_exchange_3 : decode cX7_exchange 3 = .ok (.istore_n 3, 1) := by decide +kernel
theorem dX7_exchange_4 : decode cX7_exchange 4 = .ok (.aload_n 0, 1) := by decide +kernel
theorem dX7_exchange_5 : decode cX7_exchange 5 = .ok (.iload_n 1, 1) := by decide +kernel
theorem dX7_exchange_6 : decode cX7_exchange 6 = .ok (.iload_n 2, 1) := by decide +kernel
theorem dX7_exchange_7 : decode cX7_exchange 7 = .ok (.iastore, 1) := by decide +kernel
theorem dX7_exchange_8 : decode cX7_exchange 8 = .ok (.iload_n 3, 1) := by decide +kernel
theorem dX7_exchange_9 : decode cX7_exchange 9 = .ok (.ireturn, 1) := by decide +kernel
theorem dJ9_floorMod_7cf53_0 : decode cJ9_floorMod_7cf53 0 = .ok (.iload_n 0, 1) := by decide +kernel
theorem dJ9_floorMod_7cf53_1 : decode cJ9_floorMod_7cf53 1 = .ok (.iload_n 1, 1) := by decide +kernel
theorem dJ9_floorMod_7cf53_2 : decode cJ9_floorMod_7cf53 2 = .ok (.irem, 1) := by decide +kernel
theorem dJ9_floorMod_7cf53_3 : decode cJ9_floorMod_7cf53 3 = .ok (.istore_n 2, 1) := by decide +kernel
theorem dJ9_floorMod_7cf53_4 : decode cJ9_floorMod_7cf53 4 = .ok (.iload_n 0, 1) := by decide +kernel
theorem dJ9_floorMod_7cf53_5 : decode cJ9_floorMod_7cf53 5 = .ok (.iload_n 1, 1) := by decide +kernel
theorem dJ9_floorMod_7cf53_6 : decode cJ9_floorMod_7cf53 6 = .ok (.ixor, 1) := by decide +kernel
theorem dJ9_floorMod_7cf53_7 : decode cJ9_floorMod_7cf53 7 = .ok (.ifCond .ge 11, 3) := by decide +kernel
theorem dJ9_floorMod_7cf53_10 : decode cJ9_floorMod_7cf53 10 = .ok (.iload_n 2, 1) := by decide +kernel
theorem dJ9_floorMod_7cf53_11 : decode cJ9_floorMod_7cf53 11 = .ok (.ifCond .eq 7, 3) := by decide +kernel
theorem dJ9_floorMod_7cf53_14 : decode cJ9_floorMod_7cf53 14 = .ok (.iload_n 2, 1) := by decide +kernel
theorem dJ9_floorMod_7cf53_15 : decode cJ9_floorMod_7cf53 15 = .ok (.iload_n 1, 1) := by decide +kernel
theorem dJ9_floorMod_7cf53_16 : decode cJ9_floorMod_7cf53 16 = .ok (.iadd, 1) := by decide +kernel
theorem dJ9_floorMod_7cf53_17 : decode cJ9_floorMod_7cf53 17 = .ok (.ireturn, 1) := by decide +kernel
theorem dJ9_floorMod_7cf53_18 : decode cJ9_floorMod_7cf53 18 = .ok (.iload_n 2, 1) := by decide +kernel
theorem dJ9_floorMod_7cf53_19 : decode cJ9_floorMod_7cf53 19 = .ok (.ireturn, 1) := by decide +kernel
theorem dJ9_max_7cf53_0 : decode cJ9_max_7cf53 0 = .ok (.iload_n 0, 1) := by decide +kernel
theorem dJ9_max_7cf53_1 : decode cJ9_max_7cf53 1 = .ok (.iload_n 1, 1) := by decide +kernel
theorem dJ9_max_7cf53_2 : decode cJ9_max_7cf53 2 = .ok (.if_icmp .lt 7, 3) := by decide +kernel
theorem dJ9_max_7cf53_5 : decode cJ9_max_7cf53 5 = .ok (.iload_n 0, 1) := by decide +kernel
theorem dJ9_max_7cf53_6 : decode cJ9_max_7cf53 6 = .ok (.goto 4, 3) := by decide +kernel
theorem dJ9_max_7cf53_9 : decode cJ9_max_7cf53 9 = .ok (.iload_n 1, 1) := by decide +kernel
theorem dJ9_max_7cf53_10 : decode cJ9_max_7cf53 10 = .ok (.ireturn, 1) := by decide +kernel
theorem dJ9_min_7cf53_0 : decode cJ9_min_7cf53 0 = .ok (.iload_n 0, 1) := by decide +kernel
theorem dJ9_min_7cf53_1 : decode cJ9_min_7cf53 1 = .ok (.iload_n 1, 1) := by decide +kernel
theorem dJ9_min_7cf53_2 : decode cJ9_min_7cf53 2 = .ok (.if_icmp .gt 7, 3) := by decide +kernel
theorem dJ9_min_7cf53_5 : decode cJ9_min_7cf53 5 = .ok (.iload_n 0, 1) := by decide +kernel
theorem dJ9_min_7cf53_6 : decode cJ9_min_7cf53 6 = .ok (.goto 4, 3) := by decide +kernel
theorem dJ9_min_7cf53_9 : decode cJ9_min_7cf53 9 = .ok (.iload_n 1, 1) := by decide +kernel
theorem dJ9_min_7cf53_10 : decode cJ9_min_7cf53 10 = .ok (.ireturn, 1) := by decide +kernel
theorem dJ7_fill_53178_0 : decode cJ7_fill_53178 0 = .ok (.iconst 0, 1) := by decide +kernel
theorem dJ7_fill_53178_1 : decode cJ7_fill_53178 1 = .ok (.istore_n 2, 1) := by decide +kernel
theorem dJ7_fill_53178_2 : decode cJ7_fill_53178 2 = .ok (.aload_n 0, 1) := by decide +kernel
theorem dJ7_fill_53178_3 : decode cJ7_fill_53178 3 = .ok (.arraylength, 1) := by decide +kernel
theorem dJ7_fill_53178_4 : decode cJ7_fill_53178 4 = .ok (.istore_n 3, 1) := by decide +kernel
theorem dJ7_fill_53178_5 : decode cJ7_fill_53178 5 = .ok (.iload_n 2, 1) := by decide +kernel
theorem dJ7_fill_53178_6 : decode cJ7_fill_53178 6 = .ok (.iload_n 3, 1) := by decide +kernel
theorem dJ7_fill_53178_7 : decode cJ7_fill_53178 7 = .ok (.if_icmp .ge 13, 3) := by decide +kernel
theorem dJ7_fill_53178_10 : decode cJ7_fill_53178 10 = .ok (.aload_n 0, 1) := by decide +kernel
theorem dJ7_fill_53178_11 : decode cJ7_fill_53178 11 = .ok (.iload_n 2, 1) := by decide +kernel
theorem dJ7_fill_53178_12 : decode cJ7_fill_53178 12 = .ok (.iload_n 1, 1) := by decide +kernel
theorem dJ7_fill_53178_13 : decode cJ7_fill_53178 13 = .ok (.iastore, 1) := by decide +kernel
theorem dJ7_fill_53178_14 : decode cJ7_fill_53178 14 = .ok (.iinc 2 1, 3) := by decide +kernel
theorem dJ7_fill_53178_17 : decode cJ7_fill_53178 17 = .ok (.goto (-12), 3) := by decide +kernel
theorem dJ7_fill_53178_20 : decode cJ7_fill_53178 20 = .ok (.return_, 1) := by decide +kernel
end
section
theorem dX8_in_0 : decode cX8_in 0 = .ok (.iload_n 0, 1) := by decide +kernel
theorem dX8_in_1 : decode cX8_in 1 = .ok (.iload_n 1, 1) := by decide +kernel
theorem dX8_in_2 : decode cX8_in 2 = .ok (.if_icmp .lt 12, 3) := by decide +kernel
theorem dX8_in_5 : decode cX8_in 5 = .ok (.iload_n 0, 1) := by decide +kernel
theorem dX8_in_6 : decode cX8_in 6 = .ok (.iload_n 2, 1) := by decide +kernel
theorem dX8_in_7 : decode cX8_in 7 = .ok (.if_icmp .gt 7, 3) := by decide +kernel
theorem dX8_in_10 : decode cX8_in 10 = .ok (.iconst 1, 1) := by decide +kernel
theorem dX8_in_11 : decode cX8_in 11 = .ok (.goto 4, 3) := by decide +kernel
theorem dX8_in_14 : decode cX8_in 14 = .ok (.iconst 0, 1) := by decide +kernel
theorem dX8_in_15 : decode cX8_in 15 = .ok (.ireturn, 1) := by decide +kernel
theorem dX8_init_0 : decode cX8_init 0 = .ok (.aload_n 0, 1) := by decide +kernel
theorem dX8_init_1 : decode cX8_init 1 = .ok (.invokespecial 7, 3) := by decide +kernel
theorem dX8_init_4 : decode cX8_init 4 = .ok (.aload_n 0, 1) := by decide +kernel
theorem dX8_init_5 : decode cX8_init 5 = .ok (.bipush 20, 2) := by decide +kernel
theorem dX8_init_7 : decode cX8_init 7 = .ok (.putfield 13, 3) := by decide +kernel
theorem dX8_init_10 : decode cX8_init 10 = .ok (.aload_n 0, 1) := by decide +kernel
theorem dX8_init_11 : decode cX8_init 11 = .ok (.bipush 120, 2) := by decide +kernel
theorem dX8_init_13 : decode cX8_init 13 = .ok (.newarray .int, 2) := by decide +kernel
theorem dX8_init_15 : decode cX8_init 15 = .ok (.putfield 16, 3) := by decide +kernel
theorem dX8_init_18 : decode cX8_init 18 = .ok (.aload_n 0, 1) := by decide +kernel
theorem dX8_init_19 : decode cX8_init 19 = .ok (.bipush 120, 2) := by decide +kernel
theorem dX8_init_21 : decode cX8_init 21 = .ok (.newarray .int, 2) := by decide +kernel
theorem dX8_init_23 : decode cX8_init 23 = .ok (.putfield 20, 3) := by decide +kernel
theorem dX8_init_26 : decode cX8_init 26 = .ok (.aload_n 0, 1) := by decide +kernel
theorem dX8_init_27 : decode cX8_init 27 = .ok (.bipush 120, 2) := by decide +kernel
theorem dX8_init_29 : decode cX8_init 29 = .ok (.newarray .int, 2) := by decide +kernel
theorem dX8_init_31 : decode cX8_init 31 = .ok (.putfield 23, 3) := by decide +kernel
theorem dX8_init_34 : decode cX8_init 34 = .ok (.aload_n 0, 1) := by decide +kernel
theorem dX8_init_35 : decode cX8_init 35 = .ok (.bipush 120, 2) := by decide +kernel
theorem dX8_init_37 : decode cX8_init 37 = .ok (.newarray .int, 2) := by decide +kernel
theorem dX8_init_39 : decode cX8_init 39 = .ok (.putfield 26, 3) := by decide +kernel
theorem dX8_init_42 : decode cX8_init 42 = .ok (.aload_n 0, 1) := by decide +kernel
theorem dX8_init_43 : decode cX8_init 43 = .ok (.iconst 1, 1) := by decide +kernel
theorem dX8_init_44 : decode cX8_init 44 = .ok (.putfield 29, 3) := by decide +kernel
theorem dX8_init_47 : decode cX8_init 47 = .ok (.aload_n 0, 1) := by decide +kernel
theorem dX8_init_48 : decode cX8_init 48 = .ok (.sipush 200, 3) := by decide +kernel
theorem dX8_init_51 : decode cX8_init 51 = .ok (.newarray .int, 2) := by decide +kernel
theorem dX8_init_53 : decode cX8_init 53 = .ok (.putfield 32, 3) := by decide +kernel
theorem dX8_init_56 : decode cX8_init 56 = .ok (.aload_n 0, 1) := by decide +kernel
theorem dX8_init_57 : decode cX8_init 57 = .ok (.sipush 200, 3) := by decide +kernel
theorem dX8_init_60 : decode cX8_init 60 = .ok (.newarray .int, 2) := by decide +kernel
theorem dX8_init_62 : decode cX8_init 62 = .ok (.putfield 35, 3) := by decide +kernel
theorem dX8_init_65 : decode cX8_init 65 = .ok (.aload_n 0, 1) := by decide +kernel
theorem dX8_init_66 : decode cX8_init 66 = .ok (.sipush 200, 3) := by decide +kernel
theorem dX8_init_69 : decode cX8_init 69 = .ok (.newarray .int, 2) := by decide +kernel
theorem dX8_init_71 : decode cX8_init 71 = .ok (.putfield 38, 3) := by decide +kernel
theorem dX8_init_74 : decode cX8_init 74 = .ok (.aload_n 0, 1) := by decide +kernel
theorem dX8_init_75 : decode cX8_init 75 = .ok (.bipush 6, 2) := by decide +kernel
theorem dX8_init_77 : decode cX8_init 77 = .ok (.newarray .int, 2) := by decide +kernel
theorem dX8_init_79 : decode cX8_init 79 = .ok (.putfield 41, 3) := by decide +kernel
theorem dX8_init_82 : decode cX8_init 82 = .ok (.aload_n 0, 1) := by decide +kernel
theorem dX8_init_83 : decode cX8_init 83 = .ok (.bipush 6, 2) := by decide +kernel
theorem dX8_init_85 : decode cX8_init 85 = .ok (.newarray .int, 2) := by decide +kernel
theorem dX8_init_87 : decode cX8_init 87 = .ok (.putfield 44, 3) := by decide +kernel
theorem dX8_init_90 : decode cX8_init 90 = .ok (.aload_n 0, 1) := by decide +kernel
theorem dX8_init_91 : decode cX8_init 91 = .ok (.bipush 6, 2) := by decide +kernel
theorem dX8_init_93 : decode cX8_init 93 = .ok (.newarray .int, 2) := by decide +kernel
theorem dX8_init_95 : decode cX8_init 95 = .ok (.putfield 47, 3) := by decide +kernel
theorem dX8_init_98 : decode cX8_init 98 = .ok (.aload_n 0, 1) := by decide +kernel
theorem dX8_init_99 : decode cX8_init 99 = .ok (.bipush 48, 2) := by decide +kernel
theorem dX8_init_101 : decode cX8_init 101 = .ok (.newarray .boolean, 2) := by decide +kernel
theorem dX8_init_103 : decode cX8_init 103 = .ok (.putfield 50, 3) := by decide +kernel
theorem dX8_init_106 : decode cX8_init 106 = .ok (.aload_n 0, 1) := by decide +kernel
theorem dX8_init_107 : decode cX8_init 107 = .ok (.bipush 48, 2) := by decide +kernel
theorem dX8_init_109 : decode cX8_init 109 = .ok (.newarray .int, 2) := by decide +kernel
theorem dX8_init_111 : decode cX8_init 111 = .ok (.putfield 54, 3) := by decide +kernel
theorem dX8_init_114 : decode cX8_init 114 = .ok (.aload_n 0, 1) := by decide +kernel
theorem dX8_init_115 : decode cX8_init 115 = .ok (.bipush 48, 2) := by decide +kernel
theorem dX8_init_117 : decode cX8_init 117 = .ok (.newarray .int, 2) := by decide +kernel
theorem dX8_init_119 : decode cX8_init 119 = .ok (.putfield 57, 3) := by decide +kernel
theorem dX8_init_122 : decode cX8_init 122 = .ok (.aload_n 0, 1) := by decide +kernel
theorem dX8_init_123 : decode cX8_init 123 = .ok (.bipush 48, 2) := by decide +kernel
theorem dX8_init_125 : decode cX8_init 125 = .ok (.newarray .int, 2) := by decide +kernel
theorem dX8_init_127 : decode cX8_init 127 = .ok (.putfield 60, 3) := by decide +kernel
theorem dX8_init_130 : decode cX8_init 130 = .ok (.aload_n 0, 1) := by decide +kernel
theorem dX8_init_131 : decode cX8_init 131 = .ok (.bipush 48, 2) := by decide +kernel
theorem dX8_init_133 : decode cX8_init 133 = .ok (.newarray .int, 2) := by decide +kernel
theorem dX8_init_135 : decode cX8_init 135 = .ok (.putfield 63, 3) := by decide +kernel
theorem dX8_init_138 : decode cX8_init 138 = .ok (.aload_n 0, 1) := by decide +kernel
theorem dX8_init_139 : decode cX8_init 139 = .ok (.bipush 48, 2) := by decide +kernel
theorem dX8_init_141 : decode cX8_init 141 = .ok (.newarray .int, 2) := by decide +kernel
theorem dX8_init_143 : decode cX8_init 143 = .ok (.putfield 66, 3) := by decide +kernel
theorem dX8_init_146 : decode cX8_init 146 = .ok (.aload_n 0, 1) := by decide +kernel
theorem dX8_init_147 : decode cX8_init 147 = .ok (.bipush 64, 2) := by decide +kernel
theorem dX8_init_149 : decode cX8_init 149 = .ok (.newarray .boolean, 2) := by decide +kernel
theorem dX8_init_151 : decode cX8_init 151 = .ok (.putfield 69, 3) := by decide +kernel
theorem dX8_init_154 : decode cX8_init 154 = .ok (.aload_n 0, 1) := by decide +kernel
theorem dX8_init_155 : decode cX8_init 155 = .ok (.bipush 64, 2) := by decide +kernel
theorem dX8_init_157 : decode cX8_init 157 = .ok (.newarray .int, 2) := by decide +kernel
theorem dX8_init_159 : decode cX8_init 159 = .ok (.putfield 72, 3) := by decide +kernel
theorem dX8_init_162 : decode cX8_init 162 = .ok (.aload_n 0, 1) := by decide +kernel
theorem dX8_init_163 : decode cX8_init 163 = .ok (.bipush 8, 2) := by decide +kernel
theorem dX8_init_165 : decode cX8_init 165 = .ok (.newarray .int, 2) := by decide +kernel
theorem dX8_init_167 : decode cX8_init 167 = .ok (.putfield 75, 3) := by decide +kernel
theorem dX8_init_170 : decode cX8_init 170 = .ok (.aload_n 0, 1) := by decide +kernel
theorem dX8_init_171 : decode cX8_init 171 = .ok (.bipush 24, 2) := by decide +kernel
theorem dX8_init_173 : decode cX8_init 173 = .ok (.newarray .int, 2) := by decide +kernel
theorem dX8_init_175 : decode cX8_init 175 = .ok (.putfield 78, 3) := by decide +kernel
theorem dX8_init_178 : decode cX8_init 178 = .ok (.aload_n 0, 1) := by decide +kernel
theorem dX8_init_179 : decode cX8_init 179 = .ok (.bipush 20, 2) := by decide +kernel
theorem dX8_init_181 : decode cX8_init 181 = .ok (.newarray .int, 2) := by decide +kernel
theorem dX8_init_183 : decode cX8_init 183 = .ok (.putfield 81, 3) := by decide +kernel
theorem dX8_init_186 : decode cX8_init 186 = .ok (.aload_n 0, 1) := by decide +kernel
theorem dX8_init_187 : decode cX8_init 187 = .ok (.bipush 20, 2) := by decide +kernel
theorem dX8_init_189 : decode cX8_init 189 = .ok (.newarray .int, 2) := by decide +kernel
theorem dX8_init_191 : decode cX8_init 191 = .ok (.putfield 84, 3) := by decide +kernel
theorem dX8_init_194 : decode cX8_init 194 = .ok (.aload_n 0, 1) := by decide +kernel
theorem dX8_init_195 : decode cX8_init 195 = .ok (.bipush 20, 2) := by decide +kernel
theorem dX8_init_197 : decode cX8_init 197 = .ok (.newarray .int, 2) := by decide +kernel
theorem dX8_init_199 : decode cX8_init 199 = .ok (.putfield 87, 3) := by decide +kernel
theorem dX8_init_202 : decode cX8_init 202 = .ok (.aload_n 0, 1) := by decide +kernel
theorem dX8_init_203 : decode cX8_init 203 = .ok (.bipush 20, 2) := by decide +kernel
theorem dX8_init_205 : decode cX8_init 205 = .ok (.newarray .int, 2) := by decide +kernel
theorem dX8_init_207 : decode cX8_init 207 = .ok (.putfield 90, 3) := by decide +kernel
theorem dX8_init_210 : decode cX8_init 210 = .ok (.aload_n 0, 1) := by decide +kernel
theorem dX8_init_211 : decode cX8_init 211 = .ok (.bipush 20, 2) := by decide +kernel
theorem dX8_init_213 : decode cX8_init 213 = .ok (.newarray .int, 2) := by decide +kernel
theorem dX8_init_215 : decode cX8_init 215 = .ok (.putfield 93, 3) := by decide +kernel
theorem dX8_init_218 : decode cX8_init 218 = .ok (.aload_n 0, 1) := by decide +kernel
theorem dX8_init_219 : decode cX8_init 219 = .ok (.ldc 96, 2) := by decide +kernel
theorem dX8_init_221 : decode cX8_init 221 = .ok (.newarray .int, 2) := by decide +kernel
theorem dX8_init_223 : decode cX8_init 223 = .ok (.putfield 97, 3) := by decide +kernel
theorem dX8_init_226 : decode cX8_init 226 = .ok (.iconst 0, 1) := by decide +kernel
theorem dX8_init_227 : decode cX8_init 227 = .ok (.istore_n 1, 1) := by decide +kernel
theorem dX8_init_228 : decode cX8_init 228 = .ok (.iload_n 1, 1) := by decide +kernel
theorem dX8_init_229 : decode cX8_init 229 = .ok (.bipush 24, 2) := by decide +kernel
theorem dX8_init_231 : decode cX8_init 231 = .ok (.if_icmp .ge 16, 3) := by decide +kernel
theorem dX8_init_234 : decode cX8_init 234 = .ok (.aload_n 0, 1) := by decide +kernel
theorem dX8_init_235 : decode cX8_init 235 = .ok (.getfield 78, 3) := by decide +kernel
theorem dX8_init_238 : decode cX8_init 238 = .ok (.iload_n 1, 1) := by decide +kernel
theorem dX8_init_239 : decode cX8_init 239 = .ok (.iconst 1, 1) := by decide +kernel
theorem dX8_init_240 : decode cX8_init 240 = .ok (.iastore, 1) := by decide +kernel
theorem dX8_init_241 : decode cX8_init 241 = .ok (.iinc 1 1, 3) := by decide +kernel
theorem dX8_init_244 : decode cX8_init 244 = .ok (.goto (-16), 3) := by decide +kernel
theorem dX8_init_247 : decode cX8_init 247 = .ok (.aload_n 0, 1) := by decide +kernel
theorem dX8_init_248 : decode cX8_init 248 = .ok (.bipush 20, 2) := by decide +kernel
theorem dX8_init_250 : decode cX8_init 250 = .ok (.invokevirtual 100, 3) := by decide +kernel
theorem dX8_init_253 : decode cX8_init 253 = .ok (.istore_n 1, 1) := by decide +kernel
theorem dX8_init_254 : decode cX8_init 254 = .ok (.return_, 1) := by decide +kernel
theorem dX8_line_0 : decode cX8_line 0 = .ok (.iload_n 1, 1) := by decide +kernel
theorem dX8_line_1 : decode cX8_line 1 = .ok (.iconst 4, 1) := by decide +kernel
theorem dX8_line_2 : decode cX8_line 2 = .ok (.bipush 120, 2) := by decide +kernel
theorem dX8_line_4 : decode cX8_line 4 = .ok (.invokestatic 104, 3) := by decide +kernel
theorem dX8_line_7 : decode cX8_line 7 = .ok (.ifCond .ne 6, 3) := by decide +kernel
theorem dX8_line_10 : decode cX8_line 10 = .ok (.bipush (-2), 2) := by decide +kernel
theorem dX8_line_12 : decode cX8_line 12 = .ok (.ireturn, 1) := by decide +kernel
theorem dX8_line_13 : decode cX8_line 13 = .ok (.aload_n 0, 1) := by decide +kernel
theorem dX8_line_14 : decode cX8_line 14 = .ok (.iload_n 1, 1) := by decide +kernel
theorem dX8_line_15 : decode cX8_line 15 = .ok (.putfield 13, 3) := by decide +kernel
theorem dX8_line_18 : decode cX8_line 18 = .ok (.iconst 0, 1) := by decide +kernel
theorem dX8_line_19 : decode cX8_line 19 = .ok (.istore_n 2, 1) := by decide +kernel
theorem dX8_line_20 : decode cX8_line 20 = .ok (.iload_n 2, 1) := by decide +kernel
theorem dX8_line_21 : decode cX8_line 21 = .ok (.bipush 120, 2) := by decide +kernel
theorem dX8_line_23 : decode cX8_line 23 = .ok (.if_icmp .ge 37, 3) := by decide +kernel
theorem dX8_line_26 : decode cX8_line 26 = .ok (.aload_n 0, 1) := by decide +kernel
theorem dX8_line_27 : decode cX8_line 27 = .ok (.getfield 16, 3) := by decide +kernel
theorem dX8_line_30 : decode cX8_line 30 = .ok (.iload_n 2, 1) := by decide +kernel
theorem dX8_line_31 : decode cX8_line 31 = .ok (.iconst 0, 1) := by decide +kernel
theorem dX8_line_32 : decode cX8_line 32 = .ok (.iastore, 1) := by decide +kernel
theorem dX8_line_33 : decode cX8_line 33 = .ok (.aload_n 0, 1) := by decide +kernel
theorem dX8_line_34 : decode cX8_line 34 = .ok (.getfield 20, 3) := by decide +kernel
theorem dX8_line_37 : decode cX8_line 37 = .ok (.iload_n 2, 1) := by decide +kernel
theorem dX8_line_38 : decode cX8_line 38 = .ok (.iconst 0, 1) := by decide +kernel
theorem dX8_line_39 : decode cX8_line 39 = .ok (.iastore, 1) := by decide +kernel
theorem dX8_line_40 : decode cX8_line 40 = .ok (.aload_n 0, 1) := by decide +kernel
theorem dX8_line_41 : decode cX8_line 41 = .ok (.getfield 23, 3) := by decide +kernel
theorem dX8_line_44 : decode cX8_line 44 = .ok (.iload_n 2, 1) := by decide +kernel
theorem dX8_line_45 : decode cX8_line 45 = .ok (.iconst (-1), 1) := by decide +kernel
theorem dX8_line_46 : decode cX8_line 46 = .ok (.iastore, 1) := by decide +kernel
theorem dX8_line_47 : decode cX8_line 47 = .ok (.aload_n 0, 1) := by decide +kernel
theorem dX8_line_48 : decode cX8_line 48 = .ok (.getfield 26, 3) := by decide +kernel
theorem dX8_line_51 : decode cX8_line 51 = .ok (.iload_n 2, 1) := by decide +kernel
theorem dX8_line_52 : decode cX8_line 52 = .ok (.iconst 0, 1) := by decide +kernel
theorem dX8_line_53 : decode cX8_line 53 = .ok (.iastore, 1) := by decide +kernel
theorem dX8_line_54 : decode cX8_line 54 = .ok (.iinc 2 1, 3) := by decide +kernel
theorem dX8_line_57 : decode cX8_line 57 = .ok (.goto (-37), 3) := by decide +kernel
theorem dX8_line_60 : decode cX8_line 60 = .ok (.aload_n 0, 1) := by decide +kernel
theorem dX8_line_61 : decode cX8_line 61 = .ok (.iconst 1, 1) := by decide +kernel
theorem dX8_line_62 : decode cX8_line 62 = .ok (.putfield 29, 3) := by decide +kernel
theorem dX8_line_65 : decode cX8_line 65 = .ok (.aload_n 0, 1) := by decide +kernel
theorem dX8_line_66 : decode cX8_line 66 = .ok (.getfield 32, 3) := by decide +kernel
theorem dX8_line_69 : decode cX8_line 69 = .ok (.iconst 0, 1) := by decide +kernel
theorem dX8_line_70 : decode cX8_line 70 = .ok (.iconst 0, 1) := by decide +kernel
theorem dX8_line_71 : decode cX8_line 71 = .ok (.iastore, 1) := by decide +kernel
theorem dX8_line_72 : decode cX8_line 72 = .ok (.aload_n 0, 1) := by decide +kernel
theorem dX8_line_73 : decode cX8_line 73 = .ok (.getfield 35, 3) := by decide +kernel
theorem dX8_line_76 : decode cX8_line 76 = .ok (.iconst 0, 1) := by decide +kernel
theorem dX8_line_77 : decode cX8_line 77 = .ok (.iconst (-1), 1) := by decide +kernel
theorem dX8_line_78 : decode cX8_line 78 = .ok (.iastore, 1) := by decide +kernel
theorem dX8_line_79 : decode cX8_line 79 = .ok (.aload_n 0, 1) := by decide +kernel
theorem dX8_line_80 : decode cX8_line 80 = .ok (.getfield 38, 3) := by decide +kernel
theorem dX8_line_83 : decode cX8_line 83 = .ok (.iconst 0, 1) := by decide +kernel
theorem dX8_line_84 : decode cX8_line 84 = .ok (.iconst 0, 1) := by decide +kernel
theorem dX8_line_85 : decode cX8_line 85 = .ok (.iastore, 1) := by decide +kernel
theorem dX8_line_86 : decode cX8_line 86 = .ok (.aload_n 0, 1) := by decide +kernel
theorem dX8_line_87 : decode cX8_line 87 = .ok (.iconst 0, 1) := by decide +kernel
theorem dX8_line_88 : decode cX8_line 88 = .ok (.putfield 108, 3) := by decide +kernel
theorem dX8_line_91 : decode cX8_line 91 = .ok (.aload_n 0, 1) := by decide +kernel
theorem dX8_line_92 : decode cX8_line 92 = .ok (.iconst 0, 1) := by decide +kernel
theorem dX8_line_93 : decode cX8_line 93 = .ok (.putfield 111, 3) := by decide +kernel
theorem dX8_line_96 : decode cX8_line 96 = .ok (.aload_n 0, 1) := by decide +kernel
theorem dX8_line_97 : decode cX8_line 97 = .ok (.iconst 0, 1) := by decide +kernel
theorem dX8_line_98 : decode cX8_line 98 = .ok (.putfield 114, 3) := by decide +kernel
theorem dX8_line_101 : decode cX8_line 101 = .ok (.aload_n 0, 1) := by decide +kernel
theorem dX8_line_102 : decode cX8_line 102 = .ok (.iconst 0, 1) := by decide +kernel
theorem dX8_line_103 : decode cX8_line 103 = .ok (.putfield 117, 3) := by decide +kernel
theorem dX8_line_106 : decode cX8_line 106 = .ok (.aload_n 0, 1) := by decide +kernel
theorem dX8_line_107 : decode cX8_line 107 = .ok (.iconst 0, 1) := by decide +kernel
theorem dX8_line_108 : decode cX8_line 108 = .ok (.putfield 120, 3) := by decide +kernel
theorem dX8_line_111 : decode cX8_line 111 = .ok (.iconst 0, 1) := by decide +kernel
theorem dX8_line_112 : decode cX8_line 112 = .ok (.ireturn, 1) := by decide +kernel
theorem dX8_isDoor_0 : decode cX8_isDoor 0 = .ok (.iload_n 1, 1) := by decide +kernel
theorem dX8_isDoor_1 : decode cX8_isDoor 1 = .ok (.iconst 0, 1) := by decide +kernel
theorem dX8_isDoor_2 : decode cX8_isDoor 2 = .ok (.aload_n 0, 1) := by decide +kernel
theorem dX8_isDoor_3 : decode cX8_isDoor 3 = .ok (.getfield 108, 3) := by decide +kernel
theorem dX8_isDoor_6 : decode cX8_isDoor 6 = .ok (.iconst 1, 1) := by decide +kernel
theorem dX8_isDoor_7 : decode cX8_isDoor 7 = .ok (.isub, 1) := by decide +kernel
theorem dX8_isDoor_8 : decode cX8_isDoor 8 = .ok (.invokestatic 104, 3) := by decide +kernel
theorem dX8_isDoor_11 : decode cX8_isDoor 11 = .ok (.ireturn, 1) := by decide +kernel
theorem dX8_isKind_0 : decode cX8_isKind 0 = .ok (.iload_n 0, 1) := by decide +kernel
theorem dX8_isKind_1 : decode cX8_isKind 1 = .ok (.iconst 0, 1) := by decide +kernel
theorem dX8_isKind_2 : decode cX8_isKind 2 = .ok (.bipush 7, 2) := by decide +kernel
theorem dX8_isKind_4 : decode cX8_isKind 4 = .ok (.invokestatic 104, 3) := by decide +kernel
theorem dX8_isKind_7 : decode cX8_isKind 7 = .ok (.ireturn, 1) := by decide +kernel
theorem dX8_isTank_0 : decode cX8_isTank 0 = .ok (.aload_n 0, 1) := by decide +kernel
theorem dX8_isTank_1 : decode cX8_isTank 1 = .ok (.iload_n 1, 1) := by decide +kernel
theorem dX8_isTank_2 : decode cX8_isTank 2 = .ok (.invokevirtual 123, 3) := by decide +kernel
theorem dX8_isTank_5 : decode cX8_isTank 5 = .ok (.ifCond .eq 28, 3) := by decide +kernel
theorem dX8_isTank_8 : decode cX8_isTank 8 = .ok (.iload_n 2, 1) := by decide +kernel
theorem dX8_isTank_9 : decode cX8_isTank 9 = .ok (.invokestatic 127, 3) := by decide +kernel
theorem dX8_isTank_12 : decode cX8_isTank 12 = .ok (.ifCond .eq 21, 3) := by decide +kernel
theorem dX8_isTank_15 : decode cX8_isTank 15 = .ok (.aload_n 0, 1) := by decide +kernel
theorem dX8_isTank_16 : decode cX8_isTank 16 = .ok (.getfield 50, 3) := by decide +kernel
theorem dX8_isTank_19 : decode cX8_isTank 19 = .ok (.bipush 8, 2) := by decide +kernel
theorem dX8_isTank_21 : decode cX8_isTank 21 = .ok (.iload_n 1, 1) := by decide +kernel
theorem dX8_isTank_22 : decode cX8_isTank 22 = .ok (.imul, 1) := by decide +kernel
theorem dX8_isTank_23 : decode cX8_isTank 23 = .ok (.iload_n 2, 1) := by decide +kernel
theorem dX8_isTank_24 : decode cX8_isTank 24 = .ok (.iadd, 1) := by decide +kernel
theorem dX8_isTank_25 : decode cX8_isTank 25 = .ok (.baload, 1) := by decide +kernel
theorem dX8_isTank_26 : decode cX8_isTank 26 = .ok (.ifCond .eq 7, 3) := by decide +kernel
theorem dX8_isTank_29 : decode cX8_isTank 29 = .ok (.iconst 1, 1) := by decide +kernel
theorem dX8_isTank_30 : decode cX8_isTank 30 = .ok (.goto 4, 3) := by decide +kernel
theorem dX8_isTank_33 : decode cX8_isTank 33 = .ok (.iconst 0, 1) := by decide +kernel
theorem dX8_isTank_34 : decode cX8_isTank 34 = .ok (.ireturn, 1) := by decide +kernel
theorem dX8_door_0 : decode cX8_door 0 = .ok (.iload_n 1, 1) := by decide +kernel
theorem dX8_door_1 : decode cX8_door 1 = .ok (.iconst 0, 1) := by decide +kernel
theorem dX8_door_2 : decode cX8_door 2 = .ok (.aload_n 0, 1) := by decide +kernel
theorem dX8_door_3 : decode cX8_door 3 = .ok (.getfield 13, 3) := by decide +kernel
theorem dX8_door_6 : decode cX8_door 6 = .ok (.invokestatic 104, 3) := by decide +kernel
theorem dX8_door_9 : decode cX8_door 9 = .ok (.ifCond .ne 6, 3) := by decide +kernel
theorem dX8_door_12 : decode cX8_door 12 = .ok (.bipush (-2), 2) := by decide +kernel
theorem dX8_door_14 : decode cX8_door 14 = .ok (.ireturn, 1) := by decide +kernel
theorem dX8_door_15 : decode cX8_door 15 = .ok (.iconst 0, 1) := by decide +kernel
theorem dX8_door_16 : decode cX8_door 16 = .ok (.istore_n 2, 1) := by decide +kernel
theorem dX8_door_17 : decode cX8_door 17 = .ok (.iload_n 2, 1) := by decide +kernel
theorem dX8_door_18 : decode cX8_door 18 = .ok (.aload_n 0, 1) := by decide +kernel
theorem dX8_door_19 : decode cX8_door 19 = .ok (.getfield 108, 3) := by decide +kernel
theorem dX8_door_22 : decode cX8_door 22 = .ok (.if_icmp .ge 22, 3) := by decide +kernel
theorem dX8_door_25 : decode cX8_door 25 = .ok (.aload_n 0, 1) := by decide +kernel
theorem dX8_door_26 : decode cX8_door 26 = .ok (.getfield 41, 3) := by decide +kernel
theorem dX8_door_29 : decode cX8_door 29 = .ok (.iload_n 2, 1) := by decide +kernel
theorem dX8_door_30 : decode cX8_door 30 = .ok (.iaload, 1) := by decide +kernel
theorem dX8_door_31 : decode cX8_door 31 = .ok (.iload_n 1, 1) := by decide +kernel
theorem dX8_door_32 : decode cX8_door 32 = .ok (.if_icmp .ne 6, 3) := by decide +kernel
theorem dX8_door_35 : decode cX8_door 35 = .ok (.bipush (-3), 2) := by decide +kernel
theorem dX8_door_37 : decode cX8_door 37 = .ok (.ireturn, 1) := by decide +kernel
theorem dX8_door_38 : decode cX8_door 38 = .ok (.iinc 2 1, 3) := by decide +kernel
theorem dX8_door_41 : decode cX8_door 41 = .ok (.goto (-24), 3) := by decide +kernel
theorem dX8_door_44 : decode cX8_door 44 = .ok (.aload_n 0, 1) := by decide +kernel
theorem dX8_door_45 : decode cX8_door 45 = .ok (.getfield 108, 3) := by decide +kernel
theorem dX8_door_48 : decode cX8_door 48 = .ok (.bipush 6, 2) := by decide +kernel
theorem dX8_door_50 : decode cX8_door 50 = .ok (.if_icmp .ne 6, 3) := by decide +kernel
theorem dX8_door_53 : decode cX8_door 53 = .ok (.bipush (-4), 2) := by decide +kernel
theorem dX8_door_55 : decode cX8_door 55 = .ok (.ireturn, 1) := by decide +kernel
theorem dX8_door_56 : decode cX8_door 56 = .ok (.aload_n 0, 1) := by decide +kernel
theorem dX8_door_57 : decode cX8_door 57 = .ok (.getfield 41, 3) := by decide +kernel
theorem dX8_door_60 : decode cX8_door 60 = .ok (.aload_n 0, 1) := by decide +kernel
theorem dX8_door_61 : decode cX8_door 61 = .ok (.getfield 108, 3) := by decide +kernel
theorem dX8_door_64 : decode cX8_door 64 = .ok (.iload_n 1, 1) := by decide +kernel
theorem dX8_door_65 : decode cX8_door 65 = .ok (.iastore, 1) := by decide +kernel
theorem dX8_door_66 : decode cX8_door 66 = .ok (.aload_n 0, 1) := by decide +kernel
theorem dX8_door_67 : decode cX8_door 67 = .ok (.getfield 44, 3) := by decide +kernel
theorem dX8_door_70 : decode cX8_door 70 = .ok (.aload_n 0, 1) := by decide +kernel
theorem dX8_door_71 : decode cX8_door 71 = .ok (.getfield 108, 3) := by decide +kernel
theorem dX8_door_74 : decode cX8_door 74 = .ok (.bipush 10, 2) := by decide +kernel
theorem dX8_door_76 : decode cX8_door 76 = .ok (.iastore, 1) := by decide +kernel
theorem dX8_door_77 : decode cX8_door 77 = .ok (.aload_n 0, 1) := by decide +kernel
theorem dX8_door_78 : decode cX8_door 78 = .ok (.getfield 47, 3) := by decide +kernel
theorem dX8_door_81 : decode cX8_door 81 = .ok (.aload_n 0, 1) := by decide +kernel
theorem dX8_door_82 : decode cX8_door 82 = .ok (.getfield 108, 3) := by decide +kernel
theorem dX8_door_85 : decode cX8_door 85 = .ok (.iconst 0, 1) := by decide +kernel
theorem dX8_door_86 : decode cX8_door 86 = .ok (.iastore, 1) := by decide +kernel
theorem dX8_door_87 : decode cX8_door 87 = .ok (.iconst 0, 1) := by decide +kernel
theorem dX8_door_88 : decode cX8_door 88 = .ok (.istore_n 2, 1) := by decide +kernel
theorem dX8_door_89 : decode cX8_door 89 = .ok (.iload_n 2, 1) := by decide +kernel
theorem dX8_door_90 : decode cX8_door 90 = .ok (.bipush 8, 2) := by decide +kernel
theorem dX8_door_92 : decode cX8_door 92 = .ok (.if_icmp .ge 24, 3) := by decide +kernel
theorem dX8_door_95 : decode cX8_door 95 = .ok (.aload_n 0, 1) := by decide +kernel
theorem dX8_door_96 : decode cX8_door 96 = .ok (.getfield 50, 3) := by decide +kernel
theorem dX8_door_99 : decode cX8_door 99 = .ok (.bipush 8, 2) := by decide +kernel
theorem dX8_door_101 : decode cX8_door 101 = .ok (.aload_n 0, 1) := by decide +kernel
theorem dX8_door_102 : decode cX8_door 102 = .ok (.getfield 108, 3) := by decide +kernel
theorem dX8_door_105 : decode cX8_door 105 = .ok (.imul, 1) := by decide +kernel
theorem dX8_door_106 : decode cX8_door 106 = .ok (.iload_n 2, 1) := by decide +kernel
theorem dX8_door_107 : decode cX8_door 107 = .ok (.iadd, 1) := by decide +kernel
theorem dX8_door_108 : decode cX8_door 108 = .ok (.iconst 0, 1) := by decide +kernel
theorem dX8_door_109 : decode cX8_door 109 = .ok (.bastore, 1) := by decide +kernel
theorem dX8_door_110 : decode cX8_door 110 = .ok (.iinc 2 1, 3) := by decide +kernel
theorem dX8_door_113 : decode cX8_door 113 = .ok (.goto (-24), 3) := by decide +kernel
theorem dX8_door_116 : decode cX8_door 116 = .ok (.aload_n 0, 1) := by decide +kernel
theorem dX8_door_117 : decode cX8_door 117 = .ok (.dup, 1) := by decide +kernel
theorem dX8_door_118 : decode cX8_door 118 = .ok (.getfield 108, 3) := by decide +kernel
theorem dX8_door_121 : decode cX8_door 121 = .ok (.iconst 1, 1) := by decide +kernel
theorem dX8_door_122 : decode cX8_door 122 = .ok (.iadd, 1) := by decide +kernel
theorem dX8_door_123 : decode cX8_door 123 = .ok (.putfield 108, 3) := by decide +kernel
theorem dX8_door_126 : decode cX8_door 126 = .ok (.aload_n 0, 1) := by decide +kernel
theorem dX8_door_127 : decode cX8_door 127 = .ok (.iconst 0, 1) := by decide +kernel
theorem dX8_door_128 : decode cX8_door 128 = .ok (.putfield 120, 3) := by decide +kernel
theorem dX8_door_131 : decode cX8_door 131 = .ok (.aload_n 0, 1) := by decide +kernel
theorem dX8_door_132 : decode cX8_door 132 = .ok (.getfield 108, 3) := by decide +kernel
theorem dX8_door_135 : decode cX8_door 135 = .ok (.iconst 1, 1) := by decide +kernel
theorem dX8_door_136 : decode cX8_door 136 = .ok (.isub, 1) := by decide +kernel
theorem dX8_door_137 : decode cX8_door 137 = .ok (.ireturn, 1) := by decide +kernel
theorem dX8_tank_0 : decode cX8_tank 0 = .ok (.aload_n 0, 1) := by decide +kernel
theorem dX8_tank_1 : decode cX8_tank 1 = .ok (.iload_n 1, 1) := by decide +kernel
theorem dX8_tank_2 : decode cX8_tank 2 = .ok (.invokevirtual 123, 3) := by decide +kernel
theorem dX8_tank_5 : decode cX8_tank 5 = .ok (.ifCond .eq 10, 3) := by decide +kernel
theorem dX8_tank_8 : decode cX8_tank 8 = .ok (.iload_n 2, 1) := by decide +kernel
theorem dX8_tank_9 : decode cX8_tank 9 = .ok (.invokestatic 127, 3) := by decide +kernel
theorem dX8_tank_12 : decode cX8_tank 12 = .ok (.ifCond .ne 5, 3) := by decide +kernel
theorem dX8_tank_15 : decode cX8_tank 15 = .ok (.iconst (-1), 1) := by decide +kernel
theorem dX8_tank_16 : decode cX8_tank 16 = .ok (.ireturn, 1) := by decide +kernel
theorem dX8_tank_17 : decode cX8_tank 17 = .ok (.iload_n 3, 1) := by decide +kernel
theorem dX8_tank_18 : decode cX8_tank 18 = .ok (.ifCond .lt 28, 3) := by decide +kernel
theorem dX8_tank_21 : decode cX8_tank 21 = .ok (.iload 4, 2) := by decide +kernel
theorem dX8_tank_23 : decode cX8_tank 23 = .ok (.iload_n 3, 1) := by decide +kernel
theorem dX8_tank_24 : decode cX8_tank 24 = .ok (.if_icmp .lt 22, 3) := by decide +kernel
theorem dX8_tank_27 : decode cX8_tank 27 = .ok (.iload 4, 2) := by decide +kernel
theorem dX8_tank_29 : decode cX8_tank 29 = .ok (.sipush 10000, 3) := by decide +kernel
theorem dX8_tank_32 : decode cX8_tank 32 = .ok (.if_icmp .gt 14, 3) := by decide +kernel
theorem dX8_tank_35 : decode cX8_tank 35 = .ok (.iload 5, 2) := by decide +kernel
theorem dX8_tank_37 : decode cX8_tank 37 = .ok (.iload_n 3, 1) := by decide +kernel
theorem dX8_tank_38 : decode cX8_tank 38 = .ok (.iload 4, 2) := by decide +kernel
theorem dX8_tank_40 : decode cX8_tank 40 = .ok (.invokestatic 104, 3) := by decide +kernel
theorem dX8_tank_43 : decode cX8_tank 43 = .ok (.ifCond .ne 6, 3) := by decide +kernel
theorem dX8_tank_46 : decode cX8_tank 46 = .ok (.bipush (-2), 2) := by decide +kernel
theorem dX8_tank_48 : decode cX8_tank 48 = .ok (.ireturn, 1) := by decide +kernel
theorem dX8_tank_49 : decode cX8_tank 49 = .ok (.bipush 8, 2) := by decide +kernel
theorem dX8_tank_51 : decode cX8_tank 51 = .ok (.iload_n 1, 1) := by decide +kernel
theorem dX8_tank_52 : decode cX8_tank 52 = .ok (.imul, 1) := by decide +kernel
theorem dX8_tank_53 : decode cX8_tank 53 = .ok (.iload_n 2, 1) := by decide +kernel
theorem dX8_tank_54 : decode cX8_tank 54 = .ok (.iadd, 1) := by decide +kernel
theorem dX8_tank_55 : decode cX8_tank 55 = .ok (.istore 6, 2) := by decide +kernel
theorem dX8_tank_57 : decode cX8_tank 57 = .ok (.aload_n 0, 1) := by decide +kernel
theorem dX8_tank_58 : decode cX8_tank 58 = .ok (.getfield 50, 3) := by decide +kernel
theorem dX8_tank_61 : decode cX8_tank 61 = .ok (.iload 6, 2) := by decide +kernel
theorem dX8_tank_63 : decode cX8_tank 63 = .ok (.baload, 1) := by decide +kernel
theorem dX8_tank_64 : decode cX8_tank 64 = .ok (.ifCond .eq 6, 3) := by decide +kernel
theorem dX8_tank_67 : decode cX8_tank 67 = .ok (.bipush (-3), 2) := by decide +kernel
theorem dX8_tank_69 : decode cX8_tank 69 = .ok (.ireturn, 1) := by decide +kernel
theorem dX8_tank_70 : decode cX8_tank 70 = .ok (.aload_n 0, 1) := by decide +kernel
theorem dX8_tank_71 : decode cX8_tank 71 = .ok (.getfield 50, 3) := by decide +kernel
theorem dX8_tank_74 : decode cX8_tank 74 = .ok (.iload 6, 2) := by decide +kernel
theorem dX8_tank_76 : decode cX8_tank 76 = .ok (.iconst 1, 1) := by decide +kernel
theorem dX8_tank_77 : decode cX8_tank 77 = .ok (.bastore, 1) := by decide +kernel
theorem dX8_tank_78 : decode cX8_tank 78 = .ok (.aload_n 0, 1) := by decide +kernel
theorem dX8_tank_79 : decode cX8_tank 79 = .ok (.getfield 54, 3) := by decide +kernel
theorem dX8_tank_82 : decode cX8_tank 82 = .ok (.iload 6, 2) := by decide +kernel
theorem dX8_tank_84 : decode cX8_tank 84 = .ok (.iload_n 3, 1) := by decide +kernel
theorem dX8_tank_85 : decode cX8_tank 85 = .ok (.iastore, 1) := by decide +kernel
theorem dX8_tank_86 : decode cX8_tank 86 = .ok (.aload_n 0, 1) := by decide +kernel
theorem dX8_tank_87 : decode cX8_tank 87 = .ok (.getfield 57, 3) := by decide +kernel
theorem dX8_tank_90 : decode cX8_tank 90 = .ok (.iload 6, 2) := by decide +kernel
theorem dX8_tank_92 : decode cX8_tank 92 = .ok (.iload 4, 2) := by decide +kernel
theorem dX8_tank_94 : decode cX8_tank 94 = .ok (.iastore, 1) := by decide +kernel
theorem dX8_tank_95 : decode cX8_tank 95 = .ok (.aload_n 0, 1) := by decide +kernel
theorem dX8_tank_96 : decode cX8_tank 96 = .ok (.getfield 60, 3) := by decide +kernel
theorem dX8_tank_99 : decode cX8_tank 99 = .ok (.iload 6, 2) := by decide +kernel
theorem dX8_tank_101 : decode cX8_tank 101 = .ok (.iload 5, 2) := by decide +kernel
theorem dX8_tank_103 : decode cX8_tank 103 = .ok (.iastore, 1) := by decide +kernel
theorem dX8_tank_104 : decode cX8_tank 104 = .ok (.aload_n 0, 1) := by decide +kernel
theorem dX8_tank_105 : decode cX8_tank 105 = .ok (.getfield 63, 3) := by decide +kernel
theorem dX8_tank_108 : decode cX8_tank 108 = .ok (.iload 6, 2) := by decide +kernel
theorem dX8_tank_110 : decode cX8_tank 110 = .ok (.iconst 0, 1) := by decide +kernel
theorem dX8_tank_111 : decode cX8_tank 111 = .ok (.iastore, 1) := by decide +kernel
theorem dX8_tank_112 : decode cX8_tank 112 = .ok (.aload_n 0, 1) := by decide +kernel
theorem dX8_tank_113 : decode cX8_tank 113 = .ok (.getfield 66, 3) := by decide +kernel
theorem dX8_tank_116 : decode cX8_tank 116 = .ok (.iload 6, 2) := by decide +kernel
theorem dX8_tank_118 : decode cX8_tank 118 = .ok (.iconst 0, 1) := by decide +kernel
theorem dX8_tank_119 : decode cX8_tank 119 = .ok (.iastore, 1) := by decide +kernel
theorem dX8_tank_120 : decode cX8_tank 120 = .ok (.aload_n 0, 1) := by decide +kernel
theorem dX8_tank_121 : decode cX8_tank 121 = .ok (.iconst 0, 1) := by decide +kernel
theorem dX8_tank_122 : decode cX8_tank 122 = .ok (.putfield 120, 3) := by decide +kernel
theorem dX8_tank_125 : decode cX8_tank 125 = .ok (.iconst 0, 1) := by decide +kernel
theorem dX8_tank_126 : decode cX8_tank 126 = .ok (.ireturn, 1) := by decide +kernel
theorem dX8_follow_0 : decode cX8_follow 0 = .ok (.iload_n 1, 1) := by decide +kernel
theorem dX8_follow_1 : decode cX8_follow 1 = .ok (.invokestatic 127, 3) := by decide +kernel
theorem dX8_follow_4 : decode cX8_follow 4 = .ok (.ifCond .eq 10, 3) := by decide +kernel
theorem dX8_follow_7 : decode cX8_follow 7 = .ok (.iload_n 2, 1) := by decide +kernel
theorem dX8_follow_8 : decode cX8_follow 8 = .ok (.invokestatic 127, 3) := by decide +kernel
theorem dX8_follow_11 : decode cX8_follow 11 = .ok (.ifCond .ne 5, 3) := by decide +kernel
theorem dX8_follow_14 : decode cX8_follow 14 = .ok (.iconst (-1), 1) := by decide +kernel
theorem dX8_follow_15 : decode cX8_follow 15 = .ok (.ireturn, 1) := by decide +kernel
theorem dX8_follow_16 : decode cX8_follow 16 = .ok (.iload_n 3, 1) := by decide +kernel
theorem dX8_follow_17 : decode cX8_follow 17 = .ok (.iconst 0, 1) := by decide +kernel
theorem dX8_follow_18 : decode cX8_follow 18 = .ok (.iconst 1, 1) := by decide +kernel
theorem dX8_follow_19 : decode cX8_follow 19 = .ok (.invokestatic 104, 3) := by decide +kernel
theorem dX8_follow_22 : decode cX8_follow 22 = .ok (.ifCond .eq 15, 3) := by decide +kernel
theorem dX8_follow_25 : decode cX8_follow 25 = .ok (.iload 4, 2) := by decide +kernel
theorem dX8_follow_27 : decode cX8_follow 27 = .ok (.iconst 0, 1) := by decide +kernel
theorem dX8_follow_28 : decode cX8_follow 28 = .ok (.sipush 200, 3) := by decide +kernel
theorem dX8_follow_31 : decode cX8_follow 31 = .ok (.invokestatic 104, 3) := by decide +kernel
theorem dX8_follow_34 : decode cX8_follow 34 = .ok (.ifCond .ne 6, 3) := by decide +kernel
theorem dX8_follow_37 : decode cX8_follow 37 = .ok (.bipush (-2), 2) := by decide +kernel
theorem dX8_follow_39 : decode cX8_follow 39 = .ok (.ireturn, 1) := by decide +kernel
theorem dX8_follow_40 : decode cX8_follow 40 = .ok (.iload_n 3, 1) := by decide +kernel
theorem dX8_follow_41 : decode cX8_follow 41 = .ok (.ifCond .ne 11, 3) := by decide +kernel
theorem dX8_follow_44 : decode cX8_follow 44 = .ok (.iload_n 1, 1) := by decide +kernel
theorem dX8_follow_45 : decode cX8_follow 45 = .ok (.iload_n 2, 1) := by decide +kernel
theorem dX8_follow_46 : decode cX8_follow 46 = .ok (.if_icmp .ne 6, 3) := by decide +kernel
theorem dX8_follow_49 : decode cX8_follow 49 = .ok (.bipush (-3), 2) := by decide +kernel
theorem dX8_follow_51 : decode cX8_follow 51 = .ok (.ireturn, 1) := by decide +kernel
theorem dX8_follow_52 : decode cX8_follow 52 = .ok (.aload_n 0, 1) := by decide +kernel
theorem dX8_follow_53 : decode cX8_follow 53 = .ok (.getfield 69, 3) := by decide +kernel
theorem dX8_follow_56 : decode cX8_follow 56 = .ok (.bipush 8, 2) := by decide +kernel
theorem dX8_follow_58 : decode cX8_follow 58 = .ok (.iload_n 1, 1) := by decide +kernel
theorem dX8_follow_59 : decode cX8_follow 59 = .ok (.imul, 1) := by decide +kernel
theorem dX8_follow_60 : decode cX8_follow 60 = .ok (.iload_n 2, 1) := by decide +kernel
theorem dX8_follow_61 : decode cX8_follow 61 = .ok (.iadd, 1) := by decide +kernel
theorem dX8_follow_62 : decode cX8_follow 62 = .ok (.iload_n 3, 1) := by decide +kernel
theorem dX8_follow_63 : decode cX8_follow 63 = .ok (.ifCond .ne 7, 3) := by decide +kernel
theorem dX8_follow_66 : decode cX8_follow 66 = .ok (.iconst 1, 1) := by decide +kernel
theorem dX8_follow_67 : decode cX8_follow 67 = .ok (.goto 4, 3) := by decide +kernel
theorem dX8_follow_70 : decode cX8_follow 70 = .ok (.iconst 0, 1) := by decide +kernel
theorem dX8_follow_71 : decode cX8_follow 71 = .ok (.bastore, 1) := by decide +kernel
theorem dX8_follow_72 : decode cX8_follow 72 = .ok (.aload_n 0, 1) := by decide +kernel
theorem dX8_follow_73 : decode cX8_follow 73 = .ok (.getfield 72, 3) := by decide +kernel
theorem dX8_follow_76 : decode cX8_follow 76 = .ok (.bipush 8, 2) := by decide +kernel
theorem dX8_follow_78 : decode cX8_follow 78 = .ok (.iload_n 1, 1) := by decide +kernel
theorem dX8_follow_79 : decode cX8_follow 79 = .ok (.imul, 1) := by decide +kernel
theorem dX8_follow_80 : decode cX8_follow 80 = .ok (.iload_n 2, 1) := by decide +kernel
theorem dX8_follow_81 : decode cX8_follow 81 = .ok (.iadd, 1) := by decide +kernel
theorem dX8_follow_82 : decode cX8_follow 82 = .ok (.iload 4, 2) := by decide +kernel
theorem dX8_follow_84 : decode cX8_follow 84 = .ok (.iastore, 1) := by decide +kernel
theorem dX8_follow_85 : decode cX8_follow 85 = .ok (.aload_n 0, 1) := by decide +kernel
theorem dX8_follow_86 : decode cX8_follow 86 = .ok (.iconst 0, 1) := by decide +kernel
theorem dX8_follow_87 : decode cX8_follow 87 = .ok (.putfield 120, 3) := by decide +kernel
theorem dX8_follow_90 : decode cX8_follow 90 = .ok (.iconst 0, 1) := by decide +kernel
theorem dX8_follow_91 : decode cX8_follow 91 = .ok (.ireturn, 1) := by decide +kernel
theorem dX8_grace_0 : decode cX8_grace 0 = .ok (.iload_n 1, 1) := by decide +kernel
theorem dX8_grace_1 : decode cX8_grace 1 = .ok (.invokestatic 127, 3) := by decide +kernel
theorem dX8_grace_4 : decode cX8_grace 4 = .ok (.ifCond .ne 5, 3) := by decide +kernel
theorem dX8_grace_7 : decode cX8_grace 7 = .ok (.iconst (-1), 1) := by decide +kernel
theorem dX8_grace_8 : decode cX8_grace 8 = .ok (.ireturn, 1) := by decide +kernel
theorem dX8_grace_9 : decode cX8_grace 9 = .ok (.iload_n 2, 1) := by decide +kernel
theorem dX8_grace_10 : decode cX8_grace 10 = .ok (.iconst 0, 1) := by decide +kernel
theorem dX8_grace_11 : decode cX8_grace 11 = .ok (.bipush 100, 2) := by decide +kernel
theorem dX8_grace_13 : decode cX8_grace 13 = .ok (.invokestatic 104, 3) := by decide +kernel
theorem dX8_grace_16 : decode cX8_grace 16 = .ok (.ifCond .ne 6, 3) := by decide +kernel
theorem dX8_grace_19 : decode cX8_grace 19 = .ok (.bipush (-2), 2) := by decide +kernel
theorem dX8_grace_21 : decode cX8_grace 21 = .ok (.ireturn, 1) := by decide +kernel
theorem dX8_grace_22 : decode cX8_grace 22 = .ok (.aload_n 0, 1) := by decide +kernel
theorem dX8_grace_23 : decode cX8_grace 23 = .ok (.getfield 75, 3) := by decide +kernel
theorem dX8_grace_26 : decode cX8_grace 26 = .ok (.iload_n 1, 1) := by decide +kernel
theorem dX8_grace_27 : decode cX8_grace 27 = .ok (.iaload, 1) := by decide +kernel
theorem dX8_grace_28 : decode cX8_grace 28 = .ok (.istore_n 3, 1) := by decide +kernel
theorem dX8_grace_29 : decode cX8_grace 29 = .ok (.aload_n 0, 1) := by decide +kernel
theorem dX8_grace_30 : decode cX8_grace 30 = .ok (.getfield 75, 3) := by decide +kernel
theorem dX8_grace_33 : decode cX8_grace 33 = .ok (.iload_n 1, 1) := by decide +kernel
theorem dX8_grace_34 : decode cX8_grace 34 = .ok (.iload_n 2, 1) := by decide +kernel
theorem dX8_grace_35 : decode cX8_grace 35 = .ok (.iastore, 1) := by decide +kernel
theorem dX8_grace_36 : decode cX8_grace 36 = .ok (.aload_n 0, 1) := by decide +kernel
theorem dX8_grace_37 : decode cX8_grace 37 = .ok (.iconst 0, 1) := by decide +kernel
theorem dX8_grace_38 : decode cX8_grace 38 = .ok (.putfield 120, 3) := by decide +kernel
theorem dX8_grace_41 : decode cX8_grace 41 = .ok (.iload_n 3, 1) := by decide +kernel
theorem dX8_grace_42 : decode cX8_grace 42 = .ok (.ireturn, 1) := by decide +kernel
theorem dX8_rate_0 : decode cX8_rate 0 = .ok (.aload_n 0, 1) := by decide +kernel
theorem dX8_rate_1 : decode cX8_rate 1 = .ok (.iload_n 1, 1) := by decide +kernel
theorem dX8_rate_2 : decode cX8_rate 2 = .ok (.invokevirtual 123, 3) := by decide +kernel
theorem dX8_rate_5 : decode cX8_rate 5 = .ok (.ifCond .ne 5, 3) := by decide +kernel
theorem dX8_rate_8 : decode cX8_rate 8 = .ok (.iconst (-1), 1) := by decide +kernel
theorem dX8_rate_9 : decode cX8_rate 9 = .ok (.ireturn, 1) := by decide +kernel
theorem dX8_rate_10 : decode cX8_rate 10 = .ok (.iload_n 2, 1) := by decide +kernel
theorem dX8_rate_11 : decode cX8_rate 11 = .ok (.iconst 1, 1) := by decide +kernel
theorem dX8_rate_12 : decode cX8_rate 12 = .ok (.bipush 60, 2) := by decide +kernel
theorem dX8_rate_14 : decode cX8_rate 14 = .ok (.invokestatic 104, 3) := by decide +kernel
theorem dX8_rate_17 : decode cX8_rate 17 = .ok (.ifCond .ne 6, 3) := by decide +kernel
theorem dX8_rate_20 : decode cX8_rate 20 = .ok (.bipush (-2), 2) := by decide +kernel
theorem dX8_rate_22 : decode cX8_rate 22 = .ok (.ireturn, 1) := by decide +kernel
theorem dX8_rate_23 : decode cX8_rate 23 = .ok (.aload_n 0, 1) := by decide +kernel
theorem dX8_rate_24 : decode cX8_rate 24 = .ok (.getfield 44, 3) := by decide +kernel
theorem dX8_rate_27 : decode cX8_rate 27 = .ok (.iload_n 1, 1) := by decide +kernel
theorem dX8_rate_28 : decode cX8_rate 28 = .ok (.iaload, 1) := by decide +kernel
theorem dX8_rate_29 : decode cX8_rate 29 = .ok (.istore_n 3, 1) := by decide +kernel
theorem dX8_rate_30 : decode cX8_rate 30 = .ok (.aload_n 0, 1) := by decide +kernel
theorem dX8_rate_31 : decode cX8_rate 31 = .ok (.getfield 44, 3) := by decide +kernel
theorem dX8_rate_34 : decode cX8_rate 34 = .ok (.iload_n 1, 1) := by decide +kernel
theorem dX8_rate_35 : decode cX8_rate 35 = .ok (.iload_n 2, 1) := by decide +kernel
theorem dX8_rate_36 : decode cX8_rate 36 = .ok (.iastore, 1) := by decide +kernel
theorem dX8_rate_37 : decode cX8_rate 37 = .ok (.aload_n 0, 1) := by decide +kernel
theorem dX8_rate_38 : decode cX8_rate 38 = .ok (.iconst 0, 1) := by decide +kernel
theorem dX8_rate_39 : decode cX8_rate 39 = .ok (.putfield 120, 3) := by decide +kernel
theorem dX8_rate_42 : decode cX8_rate 42 = .ok (.iload_n 3, 1) := by decide +kernel
theorem dX8_rate_43 : decode cX8_rate 43 = .ok (.ireturn, 1) := by decide +kernel
theorem dX8_price_0 : decode cX8_price 0 = .ok (.iload_n 1, 1) := by decide +kernel
theorem dX8_price_1 : decode cX8_price 1 = .ok (.iconst 0, 1) := by decide +kernel
theorem dX8_price_2 : decode cX8_price 2 = .ok (.bipush 23, 2) := by decide +kernel
theorem dX8_price_4 : decode cX8_price 4 = .ok (.invokestatic 104, 3) := by decide +kernel
theorem dX8_price_7 : decode cX8_price 7 = .ok (.ifCond .ne 5, 3) := by decide +kernel
theorem dX8_price_10 : decode cX8_price 10 = .ok (.iconst (-1), 1) := by decide +kernel
theorem dX8_price_11 : decode cX8_price 11 = .ok (.ireturn, 1) := by decide +kernel
theorem dX8_price_12 : decode cX8_price 12 = .ok (.iload_n 2, 1) := by decide +kernel
theorem dX8_price_13 : decode cX8_price 13 = .ok (.iconst 0, 1) := by decide +kernel
theorem dX8_price_14 : decode cX8_price 14 = .ok (.bipush 100, 2) := by decide +kernel
theorem dX8_price_16 : decode cX8_price 16 = .ok (.invokestatic 104, 3) := by decide +kernel
theorem dX8_price_19 : decode cX8_price 19 = .ok (.ifCond .ne 6, 3) := by decide +kernel
theorem dX8_price_22 : decode cX8_price 22 = .ok (.bipush (-2), 2) := by decide +kernel
theorem dX8_price_24 : decode cX8_price 24 = .ok (.ireturn, 1) := by decide +kernel
theorem dX8_price_25 : decode cX8_price 25 = .ok (.aload_n 0, 1) := by decide +kernel
theorem dX8_price_26 : decode cX8_price 26 = .ok (.getfield 78, 3) := by decide +kernel
theorem dX8_price_29 : decode cX8_price 29 = .ok (.iload_n 1, 1) := by decide +kernel
theorem dX8_price_30 : decode cX8_price 30 = .ok (.iaload, 1) := by decide +kernel
theorem dX8_price_31 : decode cX8_price 31 = .ok (.istore_n 3, 1) := by decide +kernel
theorem dX8_price_32 : decode cX8_price 32 = .ok (.aload_n 0, 1) := by decide +kernel
theorem dX8_price_33 : decode cX8_price 33 = .ok (.getfield 78, 3) := by decide +kernel
theorem dX8_price_36 : decode cX8_price 36 = .ok (.iload_n 1, 1) := by decide +kernel
theorem dX8_price_37 : decode cX8_price 37 = .ok (.iload_n 2, 1) := by decide +kernel
theorem dX8_price_38 : decode cX8_price 38 = .ok (.iastore, 1) := by decide +kernel
theorem dX8_price_39 : decode cX8_price 39 = .ok (.aload_n 0, 1) := by decide +kernel
theorem dX8_price_40 : decode cX8_price 40 = .ok (.iconst 0, 1) := by decide +kernel
theorem dX8_price_41 : decode cX8_price 41 = .ok (.putfield 120, 3) := by decide +kernel
theorem dX8_price_44 : decode cX8_price 44 = .ok (.iload_n 3, 1) := by decide +kernel
theorem dX8_price_45 : decode cX8_price 45 = .ok (.ireturn, 1) := by decide +kernel
theorem dX8_wish_0 : decode cX8_wish 0 = .ok (.aload_n 0, 1) := by decide +kernel
theorem dX8_wish_1 : decode cX8_wish 1 = .ok (.iload_n 1, 1) := by decide +kernel
theorem dX8_wish_2 : decode cX8_wish 2 = .ok (.iload_n 2, 1) := by decide +kernel
theorem dX8_wish_3 : decode cX8_wish 3 = .ok (.invokevirtual 130, 3) := by decide +kernel
theorem dX8_wish_6 : decode cX8_wish 6 = .ok (.ifCond .ne 5, 3) := by decide +kernel
theorem dX8_wish_9 : decode cX8_wish 9 = .ok (.iconst (-1), 1) := by decide +kernel
theorem dX8_wish_10 : decode cX8_wish 10 = .ok (.ireturn, 1) := by decide +kernel
theorem dX8_wish_11 : decode cX8_wish 11 = .ok (.iload_n 3, 1) := by decide +kernel
theorem dX8_wish_12 : decode cX8_wish 12 = .ok (.iconst 1, 1) := by decide +kernel
theorem dX8_wish_13 : decode cX8_wish 13 = .ok (.sipush 1000, 3) := by decide +kernel
theorem dX8_wish_16 : decode cX8_wish 16 = .ok (.invokestatic 104, 3) := by decide +kernel
theorem dX8_wish_19 : decode cX8_wish 19 = .ok (.ifCond .eq 14, 3) := by decide +kernel
theorem dX8_wish_22 : decode cX8_wish 22 = .ok (.iload 4, 2) := by decide +kernel
theorem dX8_wish_24 : decode cX8_wish 24 = .ok (.iconst 0, 1) := by decide +kernel
theorem dX8_wish_25 : decode cX8_wish 25 = .ok (.ldc 134, 2) := by decide +kernel
theorem dX8_wish_27 : decode cX8_wish 27 = .ok (.invokestatic 104, 3) := by decide +kernel
theorem dX8_wish_30 : decode cX8_wish 30 = .ok (.ifCond .ne 6, 3) := by decide +kernel
theorem dX8_wish_33 : decode cX8_wish 33 = .ok (.bipush (-2), 2) := by decide +kernel
theorem dX8_wish_35 : decode cX8_wish 35 = .ok (.ireturn, 1) := by decide +kernel
theorem dX8_wish_36 : decode cX8_wish 36 = .ok (.aload_n 0, 1) := by decide +kernel
theorem dX8_wish_37 : decode cX8_wish 37 = .ok (.getfield 111, 3) := by decide +kernel
theorem dX8_wish_40 : decode cX8_wish 40 = .ok (.bipush 20, 2) := by decide +kernel
theorem dX8_wish_42 : decode cX8_wish 42 = .ok (.if_icmp .ne 6, 3) := by decide +kernel
theorem dX8_wish_45 : decode cX8_wish 45 = .ok (.bipush (-4), 2) := by decide +kernel
theorem dX8_wish_47 : decode cX8_wish 47 = .ok (.ireturn, 1) := by decide +kernel
theorem dX8_wish_48 : decode cX8_wish 48 = .ok (.aload_n 0, 1) := by decide +kernel
theorem dX8_wish_49 : decode cX8_wish 49 = .ok (.getfield 81, 3) := by decide +kernel
theorem dX8_wish_52 : decode cX8_wish 52 = .ok (.aload_n 0, 1) := by decide +kernel
theorem dX8_wish_53 : decode cX8_wish 53 = .ok (.getfield 111, 3) := by decide +kernel
theorem dX8_wish_56 : decode cX8_wish 56 = .ok (.bipush 8, 2) := by decide +kernel
theorem dX8_wish_58 : decode cX8_wish 58 = .ok (.iload_n 1, 1) := by decide +kernel
theorem dX8_wish_59 : decode cX8_wish 59 = .ok (.imul, 1) := by decide +kernel
theorem dX8_wish_60 : decode cX8_wish 60 = .ok (.iload_n 2, 1) := by decide +kernel
theorem dX8_wish_61 : decode cX8_wish 61 = .ok (.iadd, 1) := by decide +kernel
theorem dX8_wish_62 : decode cX8_wish 62 = .ok (.iastore, 1) := by decide +kernel
theorem dX8_wish_63 : decode cX8_wish 63 = .ok (.aload_n 0, 1) := by decide +kernel
theorem dX8_wish_64 : decode cX8_wish 64 = .ok (.getfield 84, 3) := by decide +kernel
theorem dX8_wish_67 : decode cX8_wish 67 = .ok (.aload_n 0, 1) := by decide +kernel
theorem dX8_wish_68 : decode cX8_wish 68 = .ok (.getfield 111, 3) := by decide +kernel
theorem dX8_wish_71 : decode cX8_wish 71 = .ok (.iload_n 3, 1) := by decide +kernel
theorem dX8_wish_72 : decode cX8_wish 72 = .ok (.iastore, 1) := by decide +kernel
theorem dX8_wish_73 : decode cX8_wish 73 = .ok (.aload_n 0, 1) := by decide +kernel
theorem dX8_wish_74 : decode cX8_wish 74 = .ok (.getfield 87, 3) := by decide +kernel
theorem dX8_wish_77 : decode cX8_wish 77 = .ok (.aload_n 0, 1) := by decide +kernel
theorem dX8_wish_78 : decode cX8_wish 78 = .ok (.getfield 111, 3) := by decide +kernel
theorem dX8_wish_81 : decode cX8_wish 81 = .ok (.iload 4, 2) := by decide +kernel
theorem dX8_wish_83 : decode cX8_wish 83 = .ok (.iastore, 1) := by decide +kernel
theorem dX8_wish_84 : decode cX8_wish 84 = .ok (.aload_n 0, 1) := by decide +kernel
theorem dX8_wish_85 : decode cX8_wish 85 = .ok (.getfield 90, 3) := by decide +kernel
theorem dX8_wish_88 : decode cX8_wish 88 = .ok (.aload_n 0, 1) := by decide +kernel
theorem dX8_wish_89 : decode cX8_wish 89 = .ok (.getfield 111, 3) := by decide +kernel
theorem dX8_wish_92 : decode cX8_wish 92 = .ok (.aload_n 0, 1) := by decide +kernel
theorem dX8_wish_93 : decode cX8_wish 93 = .ok (.getfield 66, 3) := by decide +kernel
theorem dX8_wish_96 : decode cX8_wish 96 = .ok (.bipush 8, 2) := by decide +kernel
theorem dX8_wish_98 : decode cX8_wish 98 = .ok (.iload_n 1, 1) := by decide +kernel
theorem dX8_wish_99 : decode cX8_wish 99 = .ok (.imul, 1) := by decide +kernel
theorem dX8_wish_100 : decode cX8_wish 100 = .ok (.iload_n 2, 1) := by decide +kernel
theorem dX8_wish_101 : decode cX8_wish 101 = .ok (.iadd, 1) := by decide +kernel
theorem dX8_wish_102 : decode cX8_wish 102 = .ok (.iaload, 1) := by decide +kernel
theorem dX8_wish_103 : decode cX8_wish 103 = .ok (.iastore, 1) := by decide +kernel
theorem dX8_wish_104 : decode cX8_wish 104 = .ok (.aload_n 0, 1) := by decide +kernel
theorem dX8_wish_105 : decode cX8_wish 105 = .ok (.getfield 93, 3) := by decide +kernel
theorem dX8_wish_108 : decode cX8_wish 108 = .ok (.aload_n 0, 1) := by decide +kernel
theorem dX8_wish_109 : decode cX8_wish 109 = .ok (.getfield 111, 3) := by decide +kernel
theorem dX8_wish_112 : decode cX8_wish 112 = .ok (.iconst (-1), 1) := by decide +kernel
theorem dX8_wish_113 : decode cX8_wish 113 = .ok (.iastore, 1) := by decide +kernel
theorem dX8_wish_114 : decode cX8_wish 114 = .ok (.aload_n 0, 1) := by decide +kernel
theorem dX8_wish_115 : decode cX8_wish 115 = .ok (.dup, 1) := by decide +kernel
theorem dX8_wish_116 : decode cX8_wish 116 = .ok (.getfield 111, 3) := by decide +kernel
theorem dX8_wish_119 : decode cX8_wish 119 = .ok (.iconst 1, 1) := by decide +kernel
theorem dX8_wish_120 : decode cX8_wish 120 = .ok (.iadd, 1) := by decide +kernel
theorem dX8_wish_121 : decode cX8_wish 121 = .ok (.putfield 111, 3) := by decide +kernel
theorem dX8_wish_124 : decode cX8_wish 124 = .ok (.aload_n 0, 1) := by decide +kernel
theorem dX8_wish_125 : decode cX8_wish 125 = .ok (.iconst 0, 1) := by decide +kernel
theorem dX8_wish_126 : decode cX8_wish 126 = .ok (.putfield 120, 3) := by decide +kernel
theorem dX8_wish_129 : decode cX8_wish 129 = .ok (.aload_n 0, 1) := by decide +kernel
theorem dX8_wish_130 : decode cX8_wish 130 = .ok (.getfield 111, 3) := by decide +kernel
theorem dX8_wish_133 : decode cX8_wish 133 = .ok (.iconst 1, 1) := by decide +kernel
theorem dX8_wish_134 : decode cX8_wish 134 = .ok (.isub, 1) := by decide +kernel
theorem dX8_wish_135 : decode cX8_wish 135 = .ok (.ireturn, 1) := by decide +kernel
theorem dX8_wait_0 : decode cX8_wait 0 = .ok (.iload_n 1, 1) := by decide +kernel
theorem dX8_wait_1 : decode cX8_wait 1 = .ok (.iconst 0, 1) := by decide +kernel
theorem dX8_wait_2 : decode cX8_wait 2 = .ok (.sipush 1000, 3) := by decide +kernel
theorem dX8_wait_5 : decode cX8_wait 5 = .ok (.invokestatic 104, 3) := by decide +kernel
theorem dX8_wait_8 : decode cX8_wait 8 = .ok (.ifCond .ne 6, 3) := by decide +kernel
theorem dX8_wait_11 : decode cX8_wait 11 = .ok (.bipush (-2), 2) := by decide +kernel
theorem dX8_wait_13 : decode cX8_wait 13 = .ok (.ireturn, 1) := by decide +kernel
theorem dX8_wait_14 : decode cX8_wait 14 = .ok (.aload_n 0, 1) := by decide +kernel
theorem dX8_wait_15 : decode cX8_wait 15 = .ok (.dup, 1) := by decide +kernel
theorem dX8_wait_16 : decode cX8_wait 16 = .ok (.getfield 114, 3) := by decide +kernel
theorem dX8_wait_19 : decode cX8_wait 19 = .ok (.iload_n 1, 1) := by decide +kernel
theorem dX8_wait_20 : decode cX8_wait 20 = .ok (.iadd, 1) := by decide +kernel
theorem dX8_wait_21 : decode cX8_wait 21 = .ok (.putfield 114, 3) := by decide +kernel
theorem dX8_wait_24 : decode cX8_wait 24 = .ok (.aload_n 0, 1) := by decide +kernel
theorem dX8_wait_25 : decode cX8_wait 25 = .ok (.iconst 0, 1) := by decide +kernel
theorem dX8_wait_26 : decode cX8_wait 26 = .ok (.putfield 120, 3) := by decide +kernel
theorem dX8_wait_29 : decode cX8_wait 29 = .ok (.aload_n 0, 1) := by decide +kernel
theorem dX8_wait_30 : decode cX8_wait 30 = .ok (.getfield 114, 3) := by decide +kernel
theorem dX8_wait_33 : decode cX8_wait 33 = .ok (.ireturn, 1) := by decide +kernel
theorem dX8_note_0 : decode cX8_note 0 = .ok (.aload_n 0, 1) := by decide +kernel
theorem dX8_note_1 : decode cX8_note 1 = .ok (.getfield 97, 3) := by decide +kernel
theorem dX8_note_4 : decode cX8_note 4 = .ok (.aload_n 0, 1) := by decide +kernel
theorem dX8_note_5 : decode cX8_note 5 = .ok (.getfield 135, 3) := by decide +kernel
theorem dX8_note_8 : decode cX8_note 8 = .ok (.iload_n 1, 1) := by decide +kernel
theorem dX8_note_9 : decode cX8_note 9 = .ok (.iastore, 1) := by decide +kernel
theorem dX8_note_10 : decode cX8_note 10 = .ok (.aload_n 0, 1) := by decide +kernel
theorem dX8_note_11 : decode cX8_note 11 = .ok (.dup, 1) := by decide +kernel
theorem dX8_note_12 : decode cX8_note 12 = .ok (.getfield 135, 3) := by decide +kernel
theorem dX8_note_15 : decode cX8_note 15 = .ok (.iconst 1, 1) := by decide +kernel
theorem dX8_note_16 : decode cX8_note 16 = .ok (.iadd, 1) := by decide +kernel
theorem dX8_note_17 : decode cX8_note 17 = .ok (.putfield 135, 3) := by decide +kernel
theorem dX8_note_20 : decode cX8_note 20 = .ok (.return_, 1) := by decide +kernel
theorem dX8_noted_0 : decode cX8_noted 0 = .ok (.aload_n 0, 1) := by decide +kernel
theorem dX8_noted_1 : decode cX8_noted 1 = .ok (.dup, 1) := by decide +kernel
theorem dX8_noted_2 : decode cX8_noted 2 = .ok (.getfield 135, 3) := by decide +kernel
theorem dX8_noted_5 : decode cX8_noted 5 = .ok (.iconst 1, 1) := by decide +kernel
theorem dX8_noted_6 : decode cX8_noted 6 = .ok (.iadd, 1) := by decide +kernel
theorem dX8_noted_7 : decode cX8_noted 7 = .ok (.putfield 135, 3) := by decide +kernel
theorem dX8_noted_10 : decode cX8_noted 10 = .ok (.aload_n 0, 1) := by decide +kernel
theorem dX8_noted_11 : decode cX8_noted 11 = .ok (.getfield 97, 3) := by decide +kernel
theorem dX8_noted_14 : decode cX8_noted 14 = .ok (.aload_n 0, 1) := by decide +kernel
theorem dX8_noted_15 : decode cX8_noted 15 = .ok (.getfield 135, 3) := by decide +kernel
theorem dX8_noted_18 : decode cX8_noted 18 = .ok (.iconst 1, 1) := by decide +kernel
theorem dX8_noted_19 : decode cX8_noted 19 = .ok (.isub, 1) := by decide +kernel
theorem dX8_noted_20 : decode cX8_noted 20 = .ok (.iaload, 1) := by decide +kernel
theorem dX8_noted_21 : decode cX8_noted 21 = .ok (.ireturn, 1) := by decide +kernel
theorem dX8_writeDown_0 : decode cX8_writeDown 0 = .ok (.aload_n 0, 1) := by decide +kernel
theorem dX8_writeDown_1 : decode cX8_writeDown 1 = .ok (.sipush 900, 3) := by decide +kernel
theorem dX8_writeDown_4 : decode cX8_writeDown 4 = .ok (.aload_n 0, 1) := by decide +kernel
theorem dX8_writeDown_5 : decode cX8_writeDown 5 = .ok (.getfield 120, 3) := by decide +kernel
theorem dX8_writeDown_8 : decode cX8_writeDown 8 = .ok (.imul, 1) := by decide +kernel
theorem dX8_writeDown_9 : decode cX8_writeDown 9 = .ok (.putfield 135, 3) := by decide +kernel
theorem dX8_writeDown_12 : decode cX8_writeDown 12 = .ok (.iconst 0, 1) := by decide +kernel
theorem dX8_writeDown_13 : decode cX8_writeDown 13 = .ok (.istore_n 1, 1) := by decide +kernel
theorem dX8_writeDown_14 : decode cX8_writeDown 14 = .ok (.iload_n 1, 1) := by decide +kernel
theorem dX8_writeDown_15 : decode cX8_writeDown 15 = .ok (.aload_n 0, 1) := by decide +kernel
theorem dX8_writeDown_16 : decode cX8_writeDown 16 = .ok (.getfield 13, 3) := by decide +kernel
theorem dX8_writeDown_19 : decode cX8_writeDown 19 = .ok (.if_icmp .ge 49, 3) := by decide +kernel
theorem dX8_writeDown_22 : decode cX8_writeDown 22 = .ok (.aload_n 0, 1) := by decide +kernel
theorem dX8_writeDown_23 : decode cX8_writeDown 23 = .ok (.aload_n 0, 1) := by decide +kernel
theorem dX8_writeDown_24 : decode cX8_writeDown 24 = .ok (.getfield 16, 3) := by decide +kernel
theorem dX8_writeDown_27 : decode cX8_writeDown 27 = .ok (.iload_n 1, 1) := by decide +kernel
theorem dX8_writeDown_28 : decode cX8_writeDown 28 = .ok (.iaload, 1) := by decide +kernel
theorem dX8_writeDown_29 : decode cX8_writeDown 29 = .ok (.invokevirtual 138, 3) := by decide +kernel
theorem dX8_writeDown_32 : decode cX8_writeDown 32 = .ok (.aload_n 0, 1) := by decide +kernel
theorem dX8_writeDown_33 : decode cX8_writeDown 33 = .ok (.aload_n 0, 1) := by decide +kernel
theorem dX8_writeDown_34 : decode cX8_writeDown 34 = .ok (.getfield 20, 3) := by decide +kernel
theorem dX8_writeDown_37 : decode cX8_writeDown 37 = .ok (.iload_n 1, 1) := by decide +kernel
theorem dX8_writeDown_38 : decode cX8_writeDown 38 = .ok (.iaload, 1) := by decide +kernel
theorem dX8_writeDown_39 : decode cX8_writeDown 39 = .ok (.invokevirtual 138, 3) := by decide +kernel
theorem dX8_writeDown_42 : decode cX8_writeDown 42 = .ok (.aload_n 0, 1) := by decide +kernel
theorem dX8_writeDown_43 : decode cX8_writeDown 43 = .ok (.aload_n 0, 1) := by decide +kernel
theorem dX8_writeDown_44 : decode cX8_writeDown 44 = .ok (.getfield 23, 3) := by decide +kernel
theorem dX8_writeDown_47 : decode cX8_writeDown 47 = .ok (.iload_n 1, 1) := by decide +kernel
theorem dX8_writeDown_48 : decode cX8_writeDown 48 = .ok (.iaload, 1) := by decide +kernel
theorem dX8_writeDown_49 : decode cX8_writeDown 49 = .ok (.invokevirtual 138, 3) := by decide +kernel
theorem dX8_writeDown_52 : decode cX8_writeDown 52 = .ok (.aload_n 0, 1) := by decide +kernel
theorem dX8_writeDown_53 : decode cX8_writeDown 53 = .ok (.aload_n 0, 1) := by decide +kernel
theorem dX8_writeDown_54 : decode cX8_writeDown 54 = .ok (.getfield 26, 3) := by decide +kernel
theorem dX8_writeDown_57 : decode cX8_writeDown 57 = .ok (.iload_n 1, 1) := by decide +kernel
theorem dX8_writeDown_58 : decode cX8_writeDown 58 = .ok (.iaload, 1) := by decide +kernel
theorem dX8_writeDown_59 : decode cX8_writeDown 59 = .ok (.invokevirtual 138, 3) := by decide +kernel
theorem dX8_writeDown_62 : decode cX8_writeDown 62 = .ok (.iinc 1 1, 3) := by decide +kernel
theorem dX8_writeDown_65 : decode cX8_writeDown 65 = .ok (.goto (-51), 3) := by decide +kernel
theorem dX8_writeDown_68 : decode cX8_writeDown 68 = .ok (.iconst 0, 1) := by decide +kernel
theorem dX8_writeDown_69 : decode cX8_writeDown 69 = .ok (.istore_n 1, 1) := by decide +kernel
theorem dX8_writeDown_70 : decode cX8_writeDown 70 = .ok (.iload_n 1, 1) := by decide +kernel
theorem dX8_writeDown_71 : decode cX8_writeDown 71 = .ok (.bipush 48, 2) := by decide +kernel
theorem dX8_writeDown_73 : decode cX8_writeDown 73 = .ok (.if_icmp .ge 39, 3) := by decide +kernel
theorem dX8_writeDown_76 : decode cX8_writeDown 76 = .ok (.aload_n 0, 1) := by decide +kernel
theorem dX8_writeDown_77 : decode cX8_writeDown 77 = .ok (.aload_n 0, 1) := by decide +kernel
theorem dX8_writeDown_78 : decode cX8_writeDown 78 = .ok (.getfield 60, 3) := by decide +kernel
theorem dX8_writeDown_81 : decode cX8_writeDown 81 = .ok (.iload_n 1, 1) := by decide +kernel
theorem dX8_writeDown_82 : decode cX8_writeDown 82 = .ok (.iaload, 1) := by decide +kernel
theorem dX8_writeDown_83 : decode cX8_writeDown 83 = .ok (.invokevirtual 138, 3) := by decide +kernel
theorem dX8_writeDown_86 : decode cX8_writeDown 86 = .ok (.aload_n 0, 1) := by decide +kernel
theorem dX8_writeDown_87 : decode cX8_writeDown 87 = .ok (.aload_n 0, 1) := by decide +kernel
theorem dX8_writeDown_88 : decode cX8_writeDown 88 = .ok (.getfield 63, 3) := by decide +kernel
theorem dX8_writeDown_91 : decode cX8_writeDown 91 = .ok (.iload_n 1, 1) := by decide +kernel
theorem dX8_writeDown_92 : decode cX8_writeDown 92 = .ok (.iaload, 1) := by decide +kernel
theorem dX8_writeDown_93 : decode cX8_writeDown 93 = .ok (.invokevirtual 138, 3) := by decide +kernel
theorem dX8_writeDown_96 : decode cX8_writeDown 96 = .ok (.aload_n 0, 1) := by decide +kernel
theorem dX8_writeDown_97 : decode cX8_writeDown 97 = .ok (.aload_n 0, 1) := by decide +kernel
theorem dX8_writeDown_98 : decode cX8_writeDown 98 = .ok (.getfield 66, 3) := by decide +kernel
theorem dX8_writeDown_101 : decode cX8_writeDown 101 = .ok (.iload_n 1, 1) := by decide +kernel
theorem dX8_writeDown_102 : decode cX8_writeDown 102 = .ok (.iaload, 1) := by decide +kernel
theorem dX8_writeDown_103 : decode cX8_writeDown 103 = .ok (.invokevirtual 138, 3) := by decide +kernel
theorem dX8_writeDown_106 : decode cX8_writeDown 106 = .ok (.iinc 1 1, 3) := by decide +kernel
theorem dX8_writeDown_109 : decode cX8_writeDown 109 = .ok (.goto (-39), 3) := by decide +kernel
theorem dX8_writeDown_112 : decode cX8_writeDown 112 = .ok (.iconst 0, 1) := by decide +kernel
theorem dX8_writeDown_113 : decode cX8_writeDown 113 = .ok (.istore_n 1, 1) := by decide +kernel
theorem dX8_writeDown_114 : decode cX8_writeDown 114 = .ok (.iload_n 1, 1) := by decide +kernel
theorem dX8_writeDown_115 : decode cX8_writeDown 115 = .ok (.bipush 6, 2) := by decide +kernel
theorem dX8_writeDown_117 : decode cX8_writeDown 117 = .ok (.if_icmp .ge 19, 3) := by decide +kernel
theorem dX8_writeDown_120 : decode cX8_writeDown 120 = .ok (.aload_n 0, 1) := by decide +kernel
theorem dX8_writeDown_121 : decode cX8_writeDown 121 = .ok (.aload_n 0, 1) := by decide +kernel
theorem dX8_writeDown_122 : decode cX8_writeDown 122 = .ok (.getfield 47, 3) := by decide +kernel
theorem dX8_writeDown_125 : decode cX8_writeDown 125 = .ok (.iload_n 1, 1) := by decide +kernel
theorem dX8_writeDown_126 : decode cX8_writeDown 126 = .ok (.iaload, 1) := by decide +kernel
theorem dX8_writeDown_127 : decode cX8_writeDown 127 = .ok (.invokevirtual 138, 3) := by decide +kernel
theorem dX8_writeDown_130 : decode cX8_writeDown 130 = .ok (.iinc 1 1, 3) := by decide +kernel
theorem dX8_writeDown_133 : decode cX8_writeDown 133 = .ok (.goto (-19), 3) := by decide +kernel
theorem dX8_writeDown_136 : decode cX8_writeDown 136 = .ok (.iconst 0, 1) := by decide +kernel
theorem dX8_writeDown_137 : decode cX8_writeDown 137 = .ok (.istore_n 1, 1) := by decide +kernel
theorem dX8_writeDown_138 : decode cX8_writeDown 138 = .ok (.iload_n 1, 1) := by decide +kernel
theorem dX8_writeDown_139 : decode cX8_writeDown 139 = .ok (.bipush 20, 2) := by decide +kernel
theorem dX8_writeDown_141 : decode cX8_writeDown 141 = .ok (.if_icmp .ge 19, 3) := by decide +kernel
theorem dX8_writeDown_144 : decode cX8_writeDown 144 = .ok (.aload_n 0, 1) := by decide +kernel
theorem dX8_writeDown_145 : decode cX8_writeDown 145 = .ok (.aload_n 0, 1) := by decide +kernel
theorem dX8_writeDown_146 : decode cX8_writeDown 146 = .ok (.getfield 93, 3) := by decide +kernel
theorem dX8_writeDown_149 : decode cX8_writeDown 149 = .ok (.iload_n 1, 1) := by decide +kernel
theorem dX8_writeDown_150 : decode cX8_writeDown 150 = .ok (.iaload, 1) := by decide +kernel
theorem dX8_writeDown_151 : decode cX8_writeDown 151 = .ok (.invokevirtual 138, 3) := by decide +kernel
theorem dX8_writeDown_154 : decode cX8_writeDown 154 = .ok (.iinc 1 1, 3) := by decide +kernel
theorem dX8_writeDown_157 : decode cX8_writeDown 157 = .ok (.goto (-19), 3) := by decide +kernel
theorem dX8_writeDown_160 : decode cX8_writeDown 160 = .ok (.iconst 0, 1) := by decide +kernel
theorem dX8_writeDown_161 : decode cX8_writeDown 161 = .ok (.istore_n 1, 1) := by decide +kernel
theorem dX8_writeDown_162 : decode cX8_writeDown 162 = .ok (.iload_n 1, 1) := by decide +kernel
theorem dX8_writeDown_163 : decode cX8_writeDown 163 = .ok (.sipush 200, 3) := by decide +kernel
theorem dX8_writeDown_166 : decode cX8_writeDown 166 = .ok (.if_icmp .ge 19, 3) := by decide +kernel
theorem dX8_writeDown_169 : decode cX8_writeDown 169 = .ok (.aload_n 0, 1) := by decide +kernel
theorem dX8_writeDown_170 : decode cX8_writeDown 170 = .ok (.aload_n 0, 1) := by decide +kernel
theorem dX8_writeDown_171 : decode cX8_writeDown 171 = .ok (.getfield 38, 3) := by decide +kernel
theorem dX8_writeDown_174 : decode cX8_writeDown 174 = .ok (.iload_n 1, 1) := by decide +kernel
theorem dX8_writeDown_175 : decode cX8_writeDown 175 = .ok (.iaload, 1) := by decide +kernel
theorem dX8_writeDown_176 : decode cX8_writeDown 176 = .ok (.invokevirtual 138, 3) := by decide +kernel
theorem dX8_writeDown_179 : decode cX8_writeDown 179 = .ok (.iinc 1 1, 3) := by decide +kernel
theorem dX8_writeDown_182 : decode cX8_writeDown 182 = .ok (.goto (-20), 3) := by decide +kernel
theorem dX8_writeDown_185 : decode cX8_writeDown 185 = .ok (.aload_n 0, 1) := by decide +kernel
theorem dX8_writeDown_186 : decode cX8_writeDown 186 = .ok (.aload_n 0, 1) := by decide +kernel
theorem dX8_writeDown_187 : decode cX8_writeDown 187 = .ok (.getfield 114, 3) := by decide +kernel
theorem dX8_writeDown_190 : decode cX8_writeDown 190 = .ok (.invokevirtual 138, 3) := by decide +kernel
theorem dX8_writeDown_193 : decode cX8_writeDown 193 = .ok (.aload_n 0, 1) := by decide +kernel
theorem dX8_writeDown_194 : decode cX8_writeDown 194 = .ok (.aload_n 0, 1) := by decide +kernel
theorem dX8_writeDown_195 : decode cX8_writeDown 195 = .ok (.getfield 117, 3) := by decide +kernel
theorem dX8_writeDown_198 : decode cX8_writeDown 198 = .ok (.invokevirtual 138, 3) := by decide +kernel
theorem dX8_writeDown_201 : decode cX8_writeDown 201 = .ok (.aload_n 0, 1) := by decide +kernel
theorem dX8_writeDown_202 : decode cX8_writeDown 202 = .ok (.aload_n 0, 1) := by decide +kernel
theorem dX8_writeDown_203 : decode cX8_writeDown 203 = .ok (.getfield 29, 3) := by decide +kernel
theorem dX8_writeDown_206 : decode cX8_writeDown 206 = .ok (.invokevirtual 138, 3) := by decide +kernel
theorem dX8_writeDown_209 : decode cX8_writeDown 209 = .ok (.return_, 1) := by decide +kernel
theorem dX8_bringBack_0 : decode cX8_bringBack 0 = .ok (.aload_n 0, 1) := by decide +kernel
theorem dX8_bringBack_1 : decode cX8_bringBack 1 = .ok (.sipush 900, 3) := by decide +kernel
theorem dX8_bringBack_4 : decode cX8_bringBack 4 = .ok (.aload_n 0, 1) := by decide +kernel
theorem dX8_bringBack_5 : decode cX8_bringBack 5 = .ok (.getfield 120, 3) := by decide +kernel
theorem dX8_bringBack_8 : decode cX8_bringBack 8 = .ok (.imul, 1) := by decide +kernel
theorem dX8_bringBack_9 : decode cX8_bringBack 9 = .ok (.putfield 135, 3) := by decide +kernel
theorem dX8_bringBack_12 : decode cX8_bringBack 12 = .ok (.iconst 0, 1) := by decide +kernel
theorem dX8_bringBack_13 : decode cX8_bringBack 13 = .ok (.istore_n 1, 1) := by decide +kernel
theorem dX8_bringBack_14 : decode cX8_bringBack 14 = .ok (.iload_n 1, 1) := by decide +kernel
theorem dX8_bringBack_15 : decode cX8_bringBack 15 = .ok (.aload_n 0, 1) := by decide +kernel
theorem dX8_bringBack_16 : decode cX8_bringBack 16 = .ok (.getfield 13, 3) := by decide +kernel
theorem dX8_bringBack_19 : decode cX8_bringBack 19 = .ok (.if_icmp .ge 49, 3) := by decide +kernel
theorem dX8_bringBack_22 : decode cX8_bringBack 22 = .ok (.aload_n 0, 1) := by decide +kernel
theorem dX8_bringBack_23 : decode cX8_bringBack 23 = .ok (.getfield 16, 3) := by decide +kernel
theorem dX8_bringBack_26 : decode cX8_bringBack 26 = .ok (.iload_n 1, 1) := by decide +kernel
theorem dX8_bringBack_27 : decode cX8_bringBack 27 = .ok (.aload_n 0, 1) := by decide +kernel
theorem dX8_bringBack_28 : decode cX8_bringBack 28 = .ok (.invokevirtual 142, 3) := by decide +kernel
theorem dX8_bringBack_31 : decode cX8_bringBack 31 = .ok (.iastore, 1) := by decide +kernel
theorem dX8_bringBack_32 : decode cX8_bringBack 32 = .ok (.aload_n 0, 1) := by decide +kernel
theorem dX8_bringBack_33 : decode cX8_bringBack 33 = .ok (.getfield 20, 3) := by decide +kernel
theorem dX8_bringBack_36 : decode cX8_bringBack 36 = .ok (.iload_n 1, 1) := by decide +kernel
theorem dX8_bringBack_37 : decode cX8_bringBack 37 = .ok (.aload_n 0, 1) := by decide +kernel
theorem dX8_bringBack_38 : decode cX8_bringBack 38 = .ok (.invokevirtual 142, 3) := by decide +kernel
theorem dX8_bringBack_41 : decode cX8_bringBack 41 = .ok (.iastore, 1) := by decide +kernel
theorem dX8_bringBack_42 : decode cX8_bringBack 42 = .ok (.aload_n 0, 1) := by decide +kernel
theorem dX8_bringBack_43 : decode cX8_bringBack 43 = .ok (.getfield 23, 3) := by decide +kernel
theorem dX8_bringBack_46 : decode cX8_bringBack 46 = .ok (.iload_n 1, 1) := by decide +kernel
theorem dX8_bringBack_47 : decode cX8_bringBack 47 = .ok (.aload_n 0, 1) := by decide +kernel
theorem dX8_bringBack_48 : decode cX8_bringBack 48 = .ok (.invokevirtual 142, 3) := by decide +kernel
theorem dX8_bringBack_51 : decode cX8_bringBack 51 = .ok (.iastore, 1) := by decide +kernel
theorem dX8_bringBack_52 : decode cX8_bringBack 52 = .ok (.aload_n 0, 1) := by decide +kernel
theorem dX8_bringBack_53 : decode cX8_bringBack 53 = .ok (.getfield 26, 3) := by decide +kernel
theorem dX8_bringBack_56 : decode cX8_bringBack 56 = .ok (.iload_n 1, 1) := by decide +kernel
theorem dX8_bringBack_57 : decode cX8_bringBack 57 = .ok (.aload_n 0, 1) := by decide +kernel
theorem dX8_bringBack_58 : decode cX8_bringBack 58 = .ok (.invokevirtual 142, 3) := by decide +kernel
theorem dX8_bringBack_61 : decode cX8_bringBack 61 = .ok (.iastore, 1) := by decide +kernel
theorem dX8_bringBack_62 : decode cX8_bringBack 62 = .ok (.iinc 1 1, 3) := by decide +kernel
theorem dX8_bringBack_65 : decode cX8_bringBack 65 = .ok (.goto (-51), 3) := by decide +kernel
theorem dX8_bringBack_68 : decode cX8_bringBack 68 = .ok (.iconst 0, 1) := by decide +kernel
theorem dX8_bringBack_69 : decode cX8_bringBack 69 = .ok (.istore_n 1, 1) := by decide +kernel
theorem dX8_bringBack_70 : decode cX8_bringBack 70 = .ok (.iload_n 1, 1) := by decide +kernel
theorem dX8_bringBack_71 : decode cX8_bringBack 71 = .ok (.bipush 48, 2) := by decide +kernel
theorem dX8_bringBack_73 : decode cX8_bringBack 73 = .ok (.if_icmp .ge 39, 3) := by decide +kernel
theorem dX8_bringBack_76 : decode cX8_bringBack 76 = .ok (.aload_n 0, 1) := by decide +kernel
theorem dX8_bringBack_77 : decode cX8_bringBack 77 = .ok (.getfield 60, 3) := by decide +kernel
theorem dX8_bringBack_80 : decode cX8_bringBack 80 = .ok (.iload_n 1, 1) := by decide +kernel
theorem dX8_bringBack_81 : decode cX8_bringBack 81 = .ok (.aload_n 0, 1) := by decide +kernel
theorem dX8_bringBack_82 : decode cX8_bringBack 82 = .ok (.invokevirtual 142, 3) := by decide +kernel
theorem dX8_bringBack_85 : decode cX8_bringBack 85 = .ok (.iastore, 1) := by decide +kernel
theorem dX8_bringBack_86 : decode cX8_bringBack 86 = .ok (.aload_n 0, 1) := by decide +kernel
theorem dX8_bringBack_87 : decode cX8_bringBack 87 = .ok (.getfield 63, 3) := by decide +kernel
theorem dX8_bringBack_90 : decode cX8_bringBack 90 = .ok (.iload_n 1, 1) := by decide +kernel
theorem dX8_bringBack_91 : decode cX8_bringBack 91 = .ok (.aload_n 0, 1) := by decide +kernel
theorem dX8_bringBack_92 : decode cX8_bringBack 92 = .ok (.invokevirtual 142, 3) := by decide +kernel
theorem dX8_bringBack_95 : decode cX8_bringBack 95 = .ok (.iastore, 1) := by decide +kernel
theorem dX8_bringBack_96 : decode cX8_bringBack 96 = .ok (.aload_n 0, 1) := by decide +kernel
theorem dX8_bringBack_97 : decode cX8_bringBack 97 = .ok (.getfield 66, 3) := by decide +kernel
theorem dX8_bringBack_100 : decode cX8_bringBack 100 = .ok (.iload_n 1, 1) := by decide +kernel
theorem dX8_bringBack_101 : decode cX8_bringBack 101 = .ok (.aload_n 0, 1) := by decide +kernel
theorem dX8_bringBack_102 : decode cX8_bringBack 102 = .ok (.invokevirtual 142, 3) := by decide +kernel
theorem dX8_bringBack_105 : decode cX8_bringBack 105 = .ok (.iastore, 1) := by decide +kernel
theorem dX8_bringBack_106 : decode cX8_bringBack 106 = .ok (.iinc 1 1, 3) := by decide +kernel
theorem dX8_bringBack_109 : decode cX8_bringBack 109 = .ok (.goto (-39), 3) := by decide +kernel
theorem dX8_bringBack_112 : decode cX8_bringBack 112 = .ok (.iconst 0, 1) := by decide +kernel
theorem dX8_bringBack_113 : decode cX8_bringBack 113 = .ok (.istore_n 1, 1) := by decide +kernel
theorem dX8_bringBack_114 : decode cX8_bringBack 114 = .ok (.iload_n 1, 1) := by decide +kernel
theorem dX8_bringBack_115 : decode cX8_bringBack 115 = .ok (.bipush 6, 2) := by decide +kernel
theorem dX8_bringBack_117 : decode cX8_bringBack 117 = .ok (.if_icmp .ge 19, 3) := by decide +kernel
theorem dX8_bringBack_120 : decode cX8_bringBack 120 = .ok (.aload_n 0, 1) := by decide +kernel
theorem dX8_bringBack_121 : decode cX8_bringBack 121 = .ok (.getfield 47, 3) := by decide +kernel
theorem dX8_bringBack_124 : decode cX8_bringBack 124 = .ok (.iload_n 1, 1) := by decide +kernel
theorem dX8_bringBack_125 : decode cX8_bringBack 125 = .ok (.aload_n 0, 1) := by decide +kernel
theorem dX8_bringBack_126 : decode cX8_bringBack 126 = .ok (.invokevirtual 142, 3) := by decide +kernel
theorem dX8_bringBack_129 : decode cX8_bringBack 129 = .ok (.iastore, 1) := by decide +kernel
theorem dX8_bringBack_130 : decode cX8_bringBack 130 = .ok (.iinc 1 1, 3) := by decide +kernel
theorem dX8_bringBack_133 : decode cX8_bringBack 133 = .ok (.goto (-19), 3) := by decide +kernel
theorem dX8_bringBack_136 : decode cX8_bringBack 136 = .ok (.iconst 0, 1) := by decide +kernel
theorem dX8_bringBack_137 : decode cX8_bringBack 137 = .ok (.istore_n 1, 1) := by decide +kernel
theorem dX8_bringBack_138 : decode cX8_bringBack 138 = .ok (.iload_n 1, 1) := by decide +kernel
theorem dX8_bringBack_139 : decode cX8_bringBack 139 = .ok (.bipush 20, 2) := by decide +kernel
theorem dX8_bringBack_141 : decode cX8_bringBack 141 = .ok (.if_icmp .ge 19, 3) := by decide +kernel
theorem dX8_bringBack_144 : decode cX8_bringBack 144 = .ok (.aload_n 0, 1) := by decide +kernel
theorem dX8_bringBack_145 : decode cX8_bringBack 145 = .ok (.getfield 93, 3) := by decide +kernel
theorem dX8_bringBack_148 : decode cX8_bringBack 148 = .ok (.iload_n 1, 1) := by decide +kernel
theorem dX8_bringBack_149 : decode cX8_bringBack 149 = .ok (.aload_n 0, 1) := by decide +kernel
theorem dX8_bringBack_150 : decode cX8_bringBack 150 = .ok (.invokevirtual 142, 3) := by decide +kernel
theorem dX8_bringBack_153 : decode cX8_bringBack 153 = .ok (.iastore, 1) := by decide +kernel
theorem dX8_bringBack_154 : decode cX8_bringBack 154 = .ok (.iinc 1 1, 3) := by decide +kernel
theorem dX8_bringBack_157 : decode cX8_bringBack 157 = .ok (.goto (-19), 3) := by decide +kernel
theorem dX8_bringBack_160 : decode cX8_bringBack 160 = .ok (.iconst 0, 1) := by decide +kernel
theorem dX8_bringBack_161 : decode cX8_bringBack 161 = .ok (.istore_n 1, 1) := by decide +kernel
theorem dX8_bringBack_162 : decode cX8_bringBack 162 = .ok (.iload_n 1, 1) := by decide +kernel
theorem dX8_bringBack_163 : decode cX8_bringBack 163 = .ok (.sipush 200, 3) := by decide +kernel
theorem dX8_bringBack_166 : decode cX8_bringBack 166 = .ok (.if_icmp .ge 19, 3) := by decide +kernel
theorem dX8_bringBack_169 : decode cX8_bringBack 169 = .ok (.aload_n 0, 1) := by decide +kernel
theorem dX8_bringBack_170 : decode cX8_bringBack 170 = .ok (.getfield 38, 3) := by decide +kernel
theorem dX8_bringBack_173 : decode cX8_bringBack 173 = .ok (.iload_n 1, 1) := by decide +kernel
theorem dX8_bringBack_174 : decode cX8_bringBack 174 = .ok (.aload_n 0, 1) := by decide +kernel
theorem dX8_bringBack_175 : decode cX8_bringBack 175 = .ok (.invokevirtual 142, 3) := by decide +kernel
theorem dX8_bringBack_178 : decode cX8_bringBack 178 = .ok (.iastore, 1) := by decide +kernel
theorem dX8_bringBack_179 : decode cX8_bringBack 179 = .ok (.iinc 1 1, 3) := by decide +kernel
theorem dX8_bringBack_182 : decode cX8_bringBack 182 = .ok (.goto (-20), 3) := by decide +kernel
theorem dX8_bringBack_185 : decode cX8_bringBack 185 = .ok (.aload_n 0, 1) := by decide +kernel
theorem dX8_bringBack_186 : decode cX8_bringBack 186 = .ok (.aload_n 0, 1) := by decide +kernel
theorem dX8_bringBack_187 : decode cX8_bringBack 187 = .ok (.invokevirtual 142, 3) := by decide +kernel
theorem dX8_bringBack_190 : decode cX8_bringBack 190 = .ok (.putfield 114, 3) := by decide +kernel
theorem dX8_bringBack_193 : decode cX8_bringBack 193 = .ok (.aload_n 0, 1) := by decide +kernel
theorem dX8_bringBack_194 : decode cX8_bringBack 194 = .ok (.aload_n 0, 1) := by decide +kernel
theorem dX8_bringBack_195 : decode cX8_bringBack 195 = .ok (.invokevirtual 142, 3) := by decide +kernel
theorem dX8_bringBack_198 : decode cX8_bringBack 198 = .ok (.putfield 117, 3) := by decide +kernel
theorem dX8_bringBack_201 : decode cX8_bringBack 201 = .ok (.aload_n 0, 1) := by decide +kernel
theorem dX8_bringBack_202 : decode cX8_bringBack 202 = .ok (.aload_n 0, 1) := by decide +kernel
theorem dX8_bringBack_203 : decode cX8_bringBack 203 = .ok (.invokevirtual 142, 3) := by decide +kernel
theorem dX8_bringBack_206 : decode cX8_bringBack 206 = .ok (.putfield 29, 3) := by decide +kernel
theorem dX8_bringBack_209 : decode cX8_bringBack 209 = .ok (.return_, 1) := by decide +kernel
theorem dX8_isPure_0 : decode cX8_isPure 0 = .ok (.aload_n 0, 1) := by decide +kernel
theorem dX8_isPure_1 : decode cX8_isPure 1 = .ok (.getfield 23, 3) := by decide +kernel
theorem dX8_isPure_4 : decode cX8_isPure 4 = .ok (.iload_n 1, 1) := by decide +kernel
theorem dX8_isPure_5 : decode cX8_isPure 5 = .ok (.iaload, 1) := by decide +kernel
theorem dX8_isPure_6 : decode cX8_isPure 6 = .ok (.iconst (-1), 1) := by decide +kernel
theorem dX8_isPure_7 : decode cX8_isPure 7 = .ok (.if_icmp .ne 7, 3) := by decide +kernel
theorem dX8_isPure_10 : decode cX8_isPure 10 = .ok (.iconst 1, 1) := by decide +kernel
theorem dX8_isPure_11 : decode cX8_isPure 11 = .ok (.goto 4, 3) := by decide +kernel
theorem dX8_isPure_14 : decode cX8_isPure 14 = .ok (.iconst 0, 1) := by decide +kernel
theorem dX8_isPure_15 : decode cX8_isPure 15 = .ok (.ireturn, 1) := by decide +kernel
theorem dX8_neighbour_0 : decode cX8_neighbour 0 = .ok (.iload_n 1, 1) := by decide +kernel
theorem dX8_neighbour_1 : decode cX8_neighbour 1 = .ok (.iload_n 2, 1) := by decide +kernel
theorem dX8_neighbour_2 : decode cX8_neighbour 2 = .ok (.iadd, 1) := by decide +kernel
theorem dX8_neighbour_3 : decode cX8_neighbour 3 = .ok (.istore_n 3, 1) := by decide +kernel
theorem dX8_neighbour_4 : decode cX8_neighbour 4 = .ok (.iload_n 3, 1) := by decide +kernel
theorem dX8_neighbour_5 : decode cX8_neighbour 5 = .ok (.ifCond .lt 26, 3) := by decide +kernel
theorem dX8_neighbour_8 : decode cX8_neighbour 8 = .ok (.iload_n 3, 1) := by decide +kernel
theorem dX8_neighbour_9 : decode cX8_neighbour 9 = .ok (.aload_n 0, 1) := by decide +kernel
theorem dX8_neighbour_10 : decode cX8_neighbour 10 = .ok (.getfield 13, 3) := by decide +kernel
theorem dX8_neighbour_13 : decode cX8_neighbour 13 = .ok (.if_icmp .ge 18, 3) := by decide +kernel
theorem dX8_neighbour_16 : decode cX8_neighbour 16 = .ok (.aload_n 0, 1) := by decide +kernel
theorem dX8_neighbour_17 : decode cX8_neighbour 17 = .ok (.iload_n 3, 1) := by decide +kernel
theorem dX8_neighbour_18 : decode cX8_neighbour 18 = .ok (.invokevirtual 146, 3) := by decide +kernel
theorem dX8_neighbour_21 : decode cX8_neighbour 21 = .ok (.ifCond .ne 10, 3) := by decide +kernel
theorem dX8_neighbour_24 : decode cX8_neighbour 24 = .ok (.iload_n 3, 1) := by decide +kernel
theorem dX8_neighbour_25 : decode cX8_neighbour 25 = .ok (.iload_n 2, 1) := by decide +kernel
theorem dX8_neighbour_26 : decode cX8_neighbour 26 = .ok (.iadd, 1) := by decide +kernel
theorem dX8_neighbour_27 : decode cX8_neighbour 27 = .ok (.istore_n 3, 1) := by decide +kernel
theorem dX8_neighbour_28 : decode cX8_neighbour 28 = .ok (.goto (-24), 3) := by decide +kernel
theorem dX8_neighbour_31 : decode cX8_neighbour 31 = .ok (.iload_n 3, 1) := by decide +kernel
theorem dX8_neighbour_32 : decode cX8_neighbour 32 = .ok (.ifCond .lt 11, 3) := by decide +kernel
theorem dX8_neighbour_35 : decode cX8_neighbour 35 = .ok (.iload_n 3, 1) := by decide +kernel
theorem dX8_neighbour_36 : decode cX8_neighbour 36 = .ok (.aload_n 0, 1) := by decide +kernel
theorem dX8_neighbour_37 : decode cX8_neighbour 37 = .ok (.getfield 13, 3) := by decide +kernel
theorem dX8_neighbour_40 : decode cX8_neighbour 40 = .ok (.if_icmp .lt 7, 3) := by decide +kernel
theorem dX8_neighbour_43 : decode cX8_neighbour 43 = .ok (.iconst (-1), 1) := by decide +kernel
theorem dX8_neighbour_44 : decode cX8_neighbour 44 = .ok (.goto 4, 3) := by decide +kernel
theorem dX8_neighbour_47 : decode cX8_neighbour 47 = .ok (.iload_n 3, 1) := by decide +kernel
theorem dX8_neighbour_48 : decode cX8_neighbour 48 = .ok (.ireturn, 1) := by decide +kernel
theorem dX8_border_0 : decode cX8_border 0 = .ok (.aload_n 0, 1) := by decide +kernel
theorem dX8_border_1 : decode cX8_border 1 = .ok (.iload_n 1, 1) := by decide +kernel
theorem dX8_border_2 : decode cX8_border 2 = .ok (.invokevirtual 146, 3) := by decide +kernel
theorem dX8_border_5 : decode cX8_border 5 = .ok (.ifCond .ne 5, 3) := by decide +kernel
theorem dX8_border_8 : decode cX8_border 8 = .ok (.iconst (-1), 1) := by decide +kernel
theorem dX8_border_9 : decode cX8_border 9 = .ok (.ireturn, 1) := by decide +kernel
theorem dX8_border_10 : decode cX8_border 10 = .ok (.aload_n 0, 1) := by decide +kernel
theorem dX8_border_11 : decode cX8_border 11 = .ok (.iload_n 1, 1) := by decide +kernel
theorem dX8_border_12 : decode cX8_border 12 = .ok (.iconst (-1), 1) := by decide +kernel
theorem dX8_border_13 : decode cX8_border 13 = .ok (.invokevirtual 149, 3) := by decide +kernel
theorem dX8_border_16 : decode cX8_border 16 = .ok (.istore_n 2, 1) := by decide +kernel
theorem dX8_border_17 : decode cX8_border 17 = .ok (.iload_n 2, 1) := by decide +kernel
theorem dX8_border_18 : decode cX8_border 18 = .ok (.iconst (-1), 1) := by decide +kernel
theorem dX8_border_19 : decode cX8_border 19 = .ok (.if_icmp .eq 18, 3) := by decide +kernel
theorem dX8_border_22 : decode cX8_border 22 = .ok (.aload_n 0, 1) := by decide +kernel
theorem dX8_border_23 : decode cX8_border 23 = .ok (.getfield 20, 3) := by decide +kernel
theorem dX8_border_26 : decode cX8_border 26 = .ok (.iload_n 2, 1) := by decide +kernel
theorem dX8_border_27 : decode cX8_border 27 = .ok (.iaload, 1) := by decide +kernel
theorem dX8_border_28 : decode cX8_border 28 = .ok (.aload_n 0, 1) := by decide +kernel
theorem dX8_border_29 : decode cX8_border 29 = .ok (.getfield 20, 3) := by decide +kernel
theorem dX8_border_32 : decode cX8_border 32 = .ok (.iload_n 1, 1) := by decide +kernel
theorem dX8_border_33 : decode cX8_border 33 = .ok (.iaload, 1) := by decide +kernel
theorem dX8_border_34 : decode cX8_border 34 = .ok (.if_icmp .ne 7, 3) := by decide +kernel
theorem dX8_border_37 : decode cX8_border 37 = .ok (.iconst (-1), 1) := by decide +kernel
theorem dX8_border_38 : decode cX8_border 38 = .ok (.goto 4, 3) := by decide +kernel
theorem dX8_border_41 : decode cX8_border 41 = .ok (.iload_n 2, 1) := by decide +kernel
theorem dX8_border_42 : decode cX8_border 42 = .ok (.ireturn, 1) := by decide +kernel
theorem dX8_mayNot_0 : decode cX8_mayNot 0 = .ok (.iload_n 1, 1) := by decide +kernel
theorem dX8_mayNot_1 : decode cX8_mayNot 1 = .ok (.iconst (-1), 1) := by decide +kernel
theorem dX8_mayNot_2 : decode cX8_mayNot 2 = .ok (.if_icmp .eq 36, 3) := by decide +kernel
theorem dX8_mayNot_5 : decode cX8_mayNot 5 = .ok (.iload_n 2, 1) := by decide +kernel
theorem dX8_mayNot_6 : decode cX8_mayNot 6 = .ok (.iconst (-1), 1) := by decide +kernel
theorem dX8_mayNot_7 : decode cX8_mayNot 7 = .ok (.if_icmp .eq 31, 3) := by decide +kernel
theorem dX8_mayNot_10 : decode cX8_mayNot 10 = .ok (.aload_n 0, 1) := by decide +kernel
theorem dX8_mayNot_11 : decode cX8_mayNot 11 = .ok (.getfield 69, 3) := by decide +kernel
theorem dX8_mayNot_14 : decode cX8_mayNot 14 = .ok (.bipush 8, 2) := by decide +kernel
theorem dX8_mayNot_16 : decode cX8_mayNot 16 = .ok (.aload_n 0, 1) := by decide +kernel
theorem dX8_mayNot_17 : decode cX8_mayNot 17 = .ok (.getfield 20, 3) := by decide +kernel
theorem dX8_mayNot_20 : decode cX8_mayNot 20 = .ok (.iload_n 1, 1) := by decide +kernel
theorem dX8_mayNot_21 : decode cX8_mayNot 21 = .ok (.iaload, 1) := by decide +kernel
theorem dX8_mayNot_22 : decode cX8_mayNot 22 = .ok (.imul, 1) := by decide +kernel
theorem dX8_mayNot_23 : decode cX8_mayNot 23 = .ok (.aload_n 0, 1) := by decide +kernel
theorem dX8_mayNot_24 : decode cX8_mayNot 24 = .ok (.getfield 20, 3) := by decide +kernel
theorem dX8_mayNot_27 : decode cX8_mayNot 27 = .ok (.iload_n 2, 1) := by decide +kernel
theorem dX8_mayNot_28 : decode cX8_mayNot 28 = .ok (.iaload, 1) := by decide +kernel
theorem dX8_mayNot_29 : decode cX8_mayNot 29 = .ok (.iadd, 1) := by decide +kernel
theorem dX8_mayNot_30 : decode cX8_mayNot 30 = .ok (.baload, 1) := by decide +kernel
theorem dX8_mayNot_31 : decode cX8_mayNot 31 = .ok (.ifCond .eq 7, 3) := by decide +kernel
theorem dX8_mayNot_34 : decode cX8_mayNot 34 = .ok (.iconst 1, 1) := by decide +kernel
theorem dX8_mayNot_35 : decode cX8_mayNot 35 = .ok (.goto 4, 3) := by decide +kernel
theorem dX8_mayNot_38 : decode cX8_mayNot 38 = .ok (.iconst 0, 1) := by decide +kernel
theorem dX8_mayNot_39 : decode cX8_mayNot 39 = .ok (.ireturn, 1) := by decide +kernel
theorem dX8_isWrong_0 : decode cX8_isWrong 0 = .ok (.aload_n 0, 1) := by decide +kernel
theorem dX8_isWrong_1 : decode cX8_isWrong 1 = .ok (.iload_n 1, 1) := by decide +kernel
theorem dX8_isWrong_2 : decode cX8_isWrong 2 = .ok (.iconst (-1), 1) := by decide +kernel
theorem dX8_isWrong_3 : decode cX8_isWrong 3 = .ok (.invokevirtual 149, 3) := by decide +kernel
theorem dX8_isWrong_6 : decode cX8_isWrong 6 = .ok (.istore_n 2, 1) := by decide +kernel
theorem dX8_isWrong_7 : decode cX8_isWrong 7 = .ok (.aload_n 0, 1) := by decide +kernel
theorem dX8_isWrong_8 : decode cX8_isWrong 8 = .ok (.iload_n 1, 1) := by decide +kernel
theorem dX8_isWrong_9 : decode cX8_isWrong 9 = .ok (.iconst 1, 1) := by decide +kernel
theorem dX8_isWrong_10 : decode cX8_isWrong 10 = .ok (.invokevirtual 149, 3) := by decide +kernel
theorem dX8_isWrong_13 : decode cX8_isWrong 13 = .ok (.istore_n 3, 1) := by decide +kernel
theorem dX8_isWrong_14 : decode cX8_isWrong 14 = .ok (.aload_n 0, 1) := by decide +kernel
theorem dX8_isWrong_15 : decode cX8_isWrong 15 = .ok (.iload_n 1, 1) := by decide +kernel
theorem dX8_isWrong_16 : decode cX8_isWrong 16 = .ok (.invokevirtual 146, 3) := by decide +kernel
theorem dX8_isWrong_19 : decode cX8_isWrong 19 = .ok (.ifCond .eq 29, 3) := by decide +kernel
theorem dX8_isWrong_22 : decode cX8_isWrong 22 = .ok (.aload_n 0, 1) := by decide +kernel
theorem dX8_isWrong_23 : decode cX8_isWrong 23 = .ok (.iload_n 2, 1) := by decide +kernel
theorem dX8_isWrong_24 : decode cX8_isWrong 24 = .ok (.iload_n 1, 1) := by decide +kernel
theorem dX8_isWrong_25 : decode cX8_isWrong 25 = .ok (.invokevirtual 153, 3) := by decide +kernel
theorem dX8_isWrong_28 : decode cX8_isWrong 28 = .ok (.ifCond .ne 12, 3) := by decide +kernel
theorem dX8_isWrong_31 : decode cX8_isWrong 31 = .ok (.aload_n 0, 1) := by decide +kernel
theorem dX8_isWrong_32 : decode cX8_isWrong 32 = .ok (.iload_n 1, 1) := by decide +kernel
theorem dX8_isWrong_33 : decode cX8_isWrong 33 = .ok (.iload_n 3, 1) := by decide +kernel
theorem dX8_isWrong_34 : decode cX8_isWrong 34 = .ok (.invokevirtual 153, 3) := by decide +kernel
theorem dX8_isWrong_37 : decode cX8_isWrong 37 = .ok (.ifCond .eq 7, 3) := by decide +kernel
theorem dX8_isWrong_40 : decode cX8_isWrong 40 = .ok (.iconst 1, 1) := by decide +kernel
theorem dX8_isWrong_41 : decode cX8_isWrong 41 = .ok (.goto 13, 3) := by decide +kernel
theorem dX8_isWrong_44 : decode cX8_isWrong 44 = .ok (.iconst 0, 1) := by decide +kernel
theorem dX8_isWrong_45 : decode cX8_isWrong 45 = .ok (.goto 9, 3) := by decide +kernel
theorem dX8_isWrong_48 : decode cX8_isWrong 48 = .ok (.aload_n 0, 1) := by decide +kernel
theorem dX8_isWrong_49 : decode cX8_isWrong 49 = .ok (.iload_n 2, 1) := by decide +kernel
theorem dX8_isWrong_50 : decode cX8_isWrong 50 = .ok (.iload_n 3, 1) := by decide +kernel
theorem dX8_isWrong_51 : decode cX8_isWrong 51 = .ok (.invokevirtual 153, 3) := by decide +kernel
theorem dX8_isWrong_54 : decode cX8_isWrong 54 = .ok (.ireturn, 1) := by decide +kernel
theorem dX8_fits_0 : decode cX8_fits 0 = .ok (.aload_n 0, 1) := by decide +kernel
theorem dX8_fits_1 : decode cX8_fits 1 = .ok (.getfield 50, 3) := by decide +kernel
theorem dX8_fits_4 : decode cX8_fits 4 = .ok (.iload_n 1, 1) := by decide +kernel
theorem dX8_fits_5 : decode cX8_fits 5 = .ok (.baload, 1) := by decide +kernel
theorem dX8_fits_6 : decode cX8_fits 6 = .ok (.ifCond .eq 39, 3) := by decide +kernel
theorem dX8_fits_9 : decode cX8_fits 9 = .ok (.bipush 100, 2) := by decide +kernel
theorem dX8_fits_11 : decode cX8_fits 11 = .ok (.aload_n 0, 1) := by decide +kernel
theorem dX8_fits_12 : decode cX8_fits 12 = .ok (.getfield 63, 3) := by decide +kernel
theorem dX8_fits_15 : decode cX8_fits 15 = .ok (.iload_n 1, 1) := by decide +kernel
theorem dX8_fits_16 : decode cX8_fits 16 = .ok (.iaload, 1) := by decide +kernel
theorem dX8_fits_17 : decode cX8_fits 17 = .ok (.iconst 1, 1) := by decide +kernel
theorem dX8_fits_18 : decode cX8_fits 18 = .ok (.iadd, 1) := by decide +kernel
theorem dX8_fits_19 : decode cX8_fits 19 = .ok (.imul, 1) := by decide +kernel
theorem dX8_fits_20 : decode cX8_fits 20 = .ok (.aload_n 0, 1) := by decide +kernel
theorem dX8_fits_21 : decode cX8_fits 21 = .ok (.getfield 75, 3) := by decide +kernel
theorem dX8_fits_24 : decode cX8_fits 24 = .ok (.iload_n 1, 1) := by decide +kernel
theorem dX8_fits_25 : decode cX8_fits 25 = .ok (.bipush 8, 2) := by decide +kernel
theorem dX8_fits_27 : decode cX8_fits 27 = .ok (.irem, 1) := by decide +kernel
theorem dX8_fits_28 : decode cX8_fits 28 = .ok (.iaload, 1) := by decide +kernel
theorem dX8_fits_29 : decode cX8_fits 29 = .ok (.aload_n 0, 1) := by decide +kernel
theorem dX8_fits_30 : decode cX8_fits 30 = .ok (.getfield 60, 3) := by decide +kernel
theorem dX8_fits_33 : decode cX8_fits 33 = .ok (.iload_n 1, 1) := by decide +kernel
theorem dX8_fits_34 : decode cX8_fits 34 = .ok (.iaload, 1) := by decide +kernel
theorem dX8_fits_35 : decode cX8_fits 35 = .ok (.iconst 1, 1) := by decide +kernel
theorem dX8_fits_36 : decode cX8_fits 36 = .ok (.iadd, 1) := by decide +kernel
theorem dX8_fits_37 : decode cX8_fits 37 = .ok (.imul, 1) := by decide +kernel
theorem dX8_fits_38 : decode cX8_fits 38 = .ok (.if_icmp .gt 7, 3) := by decide +kernel
theorem dX8_fits_41 : decode cX8_fits 41 = .ok (.iconst 1, 1) := by decide +kernel
theorem dX8_fits_42 : decode cX8_fits 42 = .ok (.goto 4, 3) := by decide +kernel
theorem dX8_fits_45 : decode cX8_fits 45 = .ok (.iconst 0, 1) := by decide +kernel
theorem dX8_fits_46 : decode cX8_fits 46 = .ok (.ireturn, 1) := by decide +kernel
theorem dX8_goesOut_0 : decode cX8_goesOut 0 = .ok (.iconst (-1), 1) := by decide +kernel
theorem dX8_goesOut_1 : decode cX8_goesOut 1 = .ok (.istore_n 3, 1) := by decide +kernel
theorem dX8_goesOut_2 : decode cX8_goesOut 2 = .ok (.iconst 0, 1) := by decide +kernel
theorem dX8_goesOut_3 : decode cX8_goesOut 3 = .ok (.istore 4, 2) := by decide +kernel
theorem dX8_goesOut_5 : decode cX8_goesOut 5 = .ok (.aload_n 0, 1) := by decide +kernel
theorem dX8_goesOut_6 : decode cX8_goesOut 6 = .ok (.getfield 38, 3) := by decide +kernel
theorem dX8_goesOut_9 : decode cX8_goesOut 9 = .ok (.aload_n 0, 1) := by decide +kernel
theorem dX8_goesOut_10 : decode cX8_goesOut 10 = .ok (.getfield 16, 3) := by decide +kernel
theorem dX8_goesOut_13 : decode cX8_goesOut 13 = .ok (.iload_n 1, 1) := by decide +kernel
theorem dX8_goesOut_14 : decode cX8_goesOut 14 = .ok (.iaload, 1) := by decide +kernel
theorem dX8_goesOut_15 : decode cX8_goesOut 15 = .ok (.dup2, 1) := by decide +kernel
theorem dX8_goesOut_16 : decode cX8_goesOut 16 = .ok (.iaload, 1) := by decide +kernel
theorem dX8_goesOut_17 : decode cX8_goesOut 17 = .ok (.iconst 1, 1) := by decide +kernel
theorem dX8_goesOut_18 : decode cX8_goesOut 18 = .ok (.iadd, 1) := by decide +kernel
theorem dX8_goesOut_19 : decode cX8_goesOut 19 = .ok (.iastore, 1) := by decide +kernel
theorem dX8_goesOut_20 : decode cX8_goesOut 20 = .ok (.aload_n 0, 1) := by decide +kernel
theorem dX8_goesOut_21 : decode cX8_goesOut 21 = .ok (.iload_n 1, 1) := by decide +kernel
theorem dX8_goesOut_22 : decode cX8_goesOut 22 = .ok (.invokevirtual 146, 3) := by decide +kernel
theorem dX8_goesOut_25 : decode cX8_goesOut 25 = .ok (.ifCond .eq 41, 3) := by decide +kernel
theorem dX8_goesOut_28 : decode cX8_goesOut 28 = .ok (.aload_n 0, 1) := by decide +kernel
theorem dX8_goesOut_29 : decode cX8_goesOut 29 = .ok (.getfield 50, 3) := by decide +kernel
theorem dX8_goesOut_32 : decode cX8_goesOut 32 = .ok (.bipush 8, 2) := by decide +kernel
theorem dX8_goesOut_34 : decode cX8_goesOut 34 = .ok (.iload_n 2, 1) := by decide +kernel
theorem dX8_goesOut_35 : decode cX8_goesOut 35 = .ok (.imul, 1) := by decide +kernel
theorem dX8_goesOut_36 : decode cX8_goesOut 36 = .ok (.aload_n 0, 1) := by decide +kernel
theorem dX8_goesOut_37 : decode cX8_goesOut 37 = .ok (.getfield 20, 3) := by decide +kernel
theorem dX8_goesOut_40 : decode cX8_goesOut 40 = .ok (.iload_n 1, 1) := by decide +kernel
theorem dX8_goesOut_41 : decode cX8_goesOut 41 = .ok (.iaload, 1) := by decide +kernel
theorem dX8_goesOut_42 : decode cX8_goesOut 42 = .ok (.iadd, 1) := by decide +kernel
theorem dX8_goesOut_43 : decode cX8_goesOut 43 = .ok (.baload, 1) := by decide +kernel
theorem dX8_goesOut_44 : decode cX8_goesOut 44 = .ok (.ifCond .eq 17, 3) := by decide +kernel
theorem dX8_goesOut_47 : decode cX8_goesOut 47 = .ok (.bipush 8, 2) := by decide +kernel
theorem dX8_goesOut_49 : decode cX8_goesOut 49 = .ok (.iload_n 2, 1) := by decide +kernel
theorem dX8_goesOut_50 : decode cX8_goesOut 50 = .ok (.imul, 1) := by decide +kernel
theorem dX8_goesOut_51 : decode cX8_goesOut 51 = .ok (.aload_n 0, 1) := by decide +kernel
theorem dX8_goesOut_52 : decode cX8_goesOut 52 = .ok (.getfield 20, 3) := by decide +kernel
theorem dX8_goesOut_55 : decode cX8_goesOut 55 = .ok (.iload_n 1, 1) := by decide +kernel
theorem dX8_goesOut_56 : decode cX8_goesOut 56 = .ok (.iaload, 1) := by decide +kernel
theorem dX8_goesOut_57 : decode cX8_goesOut 57 = .ok (.iadd, 1) := by decide +kernel
theorem dX8_goesOut_58 : decode cX8_goesOut 58 = .ok (.goto 4, 3) := by decide +kernel
theorem dX8_goesOut_61 : decode cX8_goesOut 61 = .ok (.iconst (-1), 1) := by decide +kernel
theorem dX8_goesOut_62 : decode cX8_goesOut 62 = .ok (.istore_n 3, 1) := by decide +kernel
theorem dX8_goesOut_63 : decode cX8_goesOut 63 = .ok (.goto 72, 3) := by decide +kernel
theorem dX8_goesOut_66 : decode cX8_goesOut 66 = .ok (.iconst 1, 1) := by decide +kernel
theorem dX8_goesOut_67 : decode cX8_goesOut 67 = .ok (.istore 4, 2) := by decide +kernel
theorem dX8_goesOut_69 : decode cX8_goesOut 69 = .ok (.aload_n 0, 1) := by decide +kernel
theorem dX8_goesOut_70 : decode cX8_goesOut 70 = .ok (.bipush 8, 2) := by decide +kernel
theorem dX8_goesOut_72 : decode cX8_goesOut 72 = .ok (.iload_n 2, 1) := by decide +kernel
theorem dX8_goesOut_73 : decode cX8_goesOut 73 = .ok (.imul, 1) := by decide +kernel
theorem dX8_goesOut_74 : decode cX8_goesOut 74 = .ok (.aload_n 0, 1) := by decide +kernel
theorem dX8_goesOut_75 : decode cX8_goesOut 75 = .ok (.getfield 20, 3) := by decide +kernel
theorem dX8_goesOut_78 : decode cX8_goesOut 78 = .ok (.iload_n 1, 1) := by decide +kernel
theorem dX8_goesOut_79 : decode cX8_goesOut 79 = .ok (.iaload, 1) := by decide +kernel
theorem dX8_goesOut_80 : decode cX8_goesOut 80 = .ok (.iadd, 1) := by decide +kernel
theorem dX8_goesOut_81 : decode cX8_goesOut 81 = .ok (.invokevirtual 156, 3) := by decide +kernel
theorem dX8_goesOut_84 : decode cX8_goesOut 84 = .ok (.ifCond .eq 17, 3) := by decide +kernel
end
section
theorem dX8_goesOut_87 : decode cX8_goesOut 87 = .ok (.bipush 8, 2) := by decide +kernel
theorem dX8_goesOut_89 : decode cX8_goesOut 89 = .ok (.iload_n 2, 1) := by decide +kernel
theorem dX8_goesOut_90 : decode cX8_goesOut 90 = .ok (.imul, 1) := by decide +kernel
theorem dX8_goesOut_91 : decode cX8_goesOut 91 = .ok (.aload_n 0, 1) := by decide +kernel
theorem dX8_goesOut_92 : decode cX8_goesOut 92 = .ok (.getfield 20, 3) := by decide +kernel
theorem dX8_goesOut_95 : decode cX8_goesOut 95 = .ok (.iload_n 1, 1) := by decide +kernel
theorem dX8_goesOut_96 : decode cX8_goesOut 96 = .ok (.iaload, 1) := by decide +kernel
theorem dX8_goesOut_97 : decode cX8_goesOut 97 = .ok (.iadd, 1) := by decide +kernel
theorem dX8_goesOut_98 : decode cX8_goesOut 98 = .ok (.goto 36, 3) := by decide +kernel
theorem dX8_goesOut_101 : decode cX8_goesOut 101 = .ok (.aload_n 0, 1) := by decide +kernel
theorem dX8_goesOut_102 : decode cX8_goesOut 102 = .ok (.bipush 8, 2) := by decide +kernel
theorem dX8_goesOut_104 : decode cX8_goesOut 104 = .ok (.iload_n 2, 1) := by decide +kernel
theorem dX8_goesOut_105 : decode cX8_goesOut 105 = .ok (.imul, 1) := by decide +kernel
theorem dX8_goesOut_106 : decode cX8_goesOut 106 = .ok (.aload_n 0, 1) := by decide +kernel
theorem dX8_goesOut_107 : decode cX8_goesOut 107 = .ok (.getfield 23, 3) := by decide +kernel
theorem dX8_goesOut_110 : decode cX8_goesOut 110 = .ok (.iload_n 1, 1) := by decide +kernel
theorem dX8_goesOut_111 : decode cX8_goesOut 111 = .ok (.iaload, 1) := by decide +kernel
theorem dX8_goesOut_112 : decode cX8_goesOut 112 = .ok (.iadd, 1) := by decide +kernel
theorem dX8_goesOut_113 : decode cX8_goesOut 113 = .ok (.invokevirtual 156, 3) := by decide +kernel
theorem dX8_goesOut_116 : decode cX8_goesOut 116 = .ok (.ifCond .eq 17, 3) := by decide +kernel
theorem dX8_goesOut_119 : decode cX8_goesOut 119 = .ok (.bipush 8, 2) := by decide +kernel
theorem dX8_goesOut_121 : decode cX8_goesOut 121 = .ok (.iload_n 2, 1) := by decide +kernel
theorem dX8_goesOut_122 : decode cX8_goesOut 122 = .ok (.imul, 1) := by decide +kernel
theorem dX8_goesOut_123 : decode cX8_goesOut 123 = .ok (.aload_n 0, 1) := by decide +kernel
theorem dX8_goesOut_124 : decode cX8_goesOut 124 = .ok (.getfield 23, 3) := by decide +kernel
theorem dX8_goesOut_127 : decode cX8_goesOut 127 = .ok (.iload_n 1, 1) := by decide +kernel
theorem dX8_goesOut_128 : decode cX8_goesOut 128 = .ok (.iaload, 1) := by decide +kernel
theorem dX8_goesOut_129 : decode cX8_goesOut 129 = .ok (.iadd, 1) := by decide +kernel
theorem dX8_goesOut_130 : decode cX8_goesOut 130 = .ok (.goto 4, 3) := by decide +kernel
theorem dX8_goesOut_133 : decode cX8_goesOut 133 = .ok (.iconst (-1), 1) := by decide +kernel
theorem dX8_goesOut_134 : decode cX8_goesOut 134 = .ok (.istore_n 3, 1) := by decide +kernel
theorem dX8_goesOut_135 : decode cX8_goesOut 135 = .ok (.iload_n 3, 1) := by decide +kernel
theorem dX8_goesOut_136 : decode cX8_goesOut 136 = .ok (.iconst (-1), 1) := by decide +kernel
theorem dX8_goesOut_137 : decode cX8_goesOut 137 = .ok (.if_icmp .ne 15, 3) := by decide +kernel
theorem dX8_goesOut_140 : decode cX8_goesOut 140 = .ok (.aload_n 0, 1) := by decide +kernel
theorem dX8_goesOut_141 : decode cX8_goesOut 141 = .ok (.getfield 47, 3) := by decide +kernel
theorem dX8_goesOut_144 : decode cX8_goesOut 144 = .ok (.iload_n 2, 1) := by decide +kernel
theorem dX8_goesOut_145 : decode cX8_goesOut 145 = .ok (.dup2, 1) := by decide +kernel
theorem dX8_goesOut_146 : decode cX8_goesOut 146 = .ok (.iaload, 1) := by decide +kernel
theorem dX8_goesOut_147 : decode cX8_goesOut 147 = .ok (.iconst 1, 1) := by decide +kernel
theorem dX8_goesOut_148 : decode cX8_goesOut 148 = .ok (.iadd, 1) := by decide +kernel
theorem dX8_goesOut_149 : decode cX8_goesOut 149 = .ok (.iastore, 1) := by decide +kernel
theorem dX8_goesOut_150 : decode cX8_goesOut 150 = .ok (.iconst 0, 1) := by decide +kernel
theorem dX8_goesOut_151 : decode cX8_goesOut 151 = .ok (.ireturn, 1) := by decide +kernel
theorem dX8_goesOut_152 : decode cX8_goesOut 152 = .ok (.aload_n 0, 1) := by decide +kernel
theorem dX8_goesOut_153 : decode cX8_goesOut 153 = .ok (.getfield 60, 3) := by decide +kernel
theorem dX8_goesOut_156 : decode cX8_goesOut 156 = .ok (.iload_n 3, 1) := by decide +kernel
theorem dX8_goesOut_157 : decode cX8_goesOut 157 = .ok (.dup2, 1) := by decide +kernel
theorem dX8_goesOut_158 : decode cX8_goesOut 158 = .ok (.iaload, 1) := by decide +kernel
theorem dX8_goesOut_159 : decode cX8_goesOut 159 = .ok (.iconst 1, 1) := by decide +kernel
theorem dX8_goesOut_160 : decode cX8_goesOut 160 = .ok (.iadd, 1) := by decide +kernel
theorem dX8_goesOut_161 : decode cX8_goesOut 161 = .ok (.iastore, 1) := by decide +kernel
theorem dX8_goesOut_162 : decode cX8_goesOut 162 = .ok (.aload_n 0, 1) := by decide +kernel
theorem dX8_goesOut_163 : decode cX8_goesOut 163 = .ok (.getfield 63, 3) := by decide +kernel
theorem dX8_goesOut_166 : decode cX8_goesOut 166 = .ok (.iload_n 3, 1) := by decide +kernel
theorem dX8_goesOut_167 : decode cX8_goesOut 167 = .ok (.dup2, 1) := by decide +kernel
theorem dX8_goesOut_168 : decode cX8_goesOut 168 = .ok (.iaload, 1) := by decide +kernel
theorem dX8_goesOut_169 : decode cX8_goesOut 169 = .ok (.iload 4, 2) := by decide +kernel
theorem dX8_goesOut_171 : decode cX8_goesOut 171 = .ok (.iadd, 1) := by decide +kernel
theorem dX8_goesOut_172 : decode cX8_goesOut 172 = .ok (.iastore, 1) := by decide +kernel
theorem dX8_goesOut_173 : decode cX8_goesOut 173 = .ok (.aload_n 0, 1) := by decide +kernel
theorem dX8_goesOut_174 : decode cX8_goesOut 174 = .ok (.getfield 66, 3) := by decide +kernel
theorem dX8_goesOut_177 : decode cX8_goesOut 177 = .ok (.iload_n 3, 1) := by decide +kernel
theorem dX8_goesOut_178 : decode cX8_goesOut 178 = .ok (.dup2, 1) := by decide +kernel
theorem dX8_goesOut_179 : decode cX8_goesOut 179 = .ok (.iaload, 1) := by decide +kernel
theorem dX8_goesOut_180 : decode cX8_goesOut 180 = .ok (.iconst 1, 1) := by decide +kernel
theorem dX8_goesOut_181 : decode cX8_goesOut 181 = .ok (.iadd, 1) := by decide +kernel
theorem dX8_goesOut_182 : decode cX8_goesOut 182 = .ok (.iastore, 1) := by decide +kernel
theorem dX8_goesOut_183 : decode cX8_goesOut 183 = .ok (.aload_n 0, 1) := by decide +kernel
theorem dX8_goesOut_184 : decode cX8_goesOut 184 = .ok (.getfield 60, 3) := by decide +kernel
theorem dX8_goesOut_187 : decode cX8_goesOut 187 = .ok (.iload_n 3, 1) := by decide +kernel
theorem dX8_goesOut_188 : decode cX8_goesOut 188 = .ok (.iaload, 1) := by decide +kernel
theorem dX8_goesOut_189 : decode cX8_goesOut 189 = .ok (.aload_n 0, 1) := by decide +kernel
theorem dX8_goesOut_190 : decode cX8_goesOut 190 = .ok (.getfield 57, 3) := by decide +kernel
theorem dX8_goesOut_193 : decode cX8_goesOut 193 = .ok (.iload_n 3, 1) := by decide +kernel
theorem dX8_goesOut_194 : decode cX8_goesOut 194 = .ok (.iaload, 1) := by decide +kernel
theorem dX8_goesOut_195 : decode cX8_goesOut 195 = .ok (.if_icmp .le 7, 3) := by decide +kernel
theorem dX8_goesOut_198 : decode cX8_goesOut 198 = .ok (.iconst 1, 1) := by decide +kernel
theorem dX8_goesOut_199 : decode cX8_goesOut 199 = .ok (.goto 4, 3) := by decide +kernel
theorem dX8_goesOut_202 : decode cX8_goesOut 202 = .ok (.iconst 0, 1) := by decide +kernel
theorem dX8_goesOut_203 : decode cX8_goesOut 203 = .ok (.ireturn, 1) := by decide +kernel
theorem dX8_mixes_0 : decode cX8_mixes 0 = .ok (.aload_n 0, 1) := by decide +kernel
theorem dX8_mixes_1 : decode cX8_mixes 1 = .ok (.iload_n 1, 1) := by decide +kernel
theorem dX8_mixes_2 : decode cX8_mixes 2 = .ok (.invokevirtual 159, 3) := by decide +kernel
theorem dX8_mixes_5 : decode cX8_mixes 5 = .ok (.istore 4, 2) := by decide +kernel
theorem dX8_mixes_7 : decode cX8_mixes 7 = .ok (.iload 4, 2) := by decide +kernel
theorem dX8_mixes_9 : decode cX8_mixes 9 = .ok (.iconst (-1), 1) := by decide +kernel
theorem dX8_mixes_10 : decode cX8_mixes 10 = .ok (.if_icmp .eq 39, 3) := by decide +kernel
theorem dX8_mixes_13 : decode cX8_mixes 13 = .ok (.iload 4, 2) := by decide +kernel
theorem dX8_mixes_15 : decode cX8_mixes 15 = .ok (.iload_n 2, 1) := by decide +kernel
theorem dX8_mixes_16 : decode cX8_mixes 16 = .ok (.if_icmp .lt 33, 3) := by decide +kernel
theorem dX8_mixes_19 : decode cX8_mixes 19 = .ok (.iload_n 1, 1) := by decide +kernel
theorem dX8_mixes_20 : decode cX8_mixes 20 = .ok (.iload_n 3, 1) := by decide +kernel
theorem dX8_mixes_21 : decode cX8_mixes 21 = .ok (.if_icmp .ge 28, 3) := by decide +kernel
theorem dX8_mixes_24 : decode cX8_mixes 24 = .ok (.aload_n 0, 1) := by decide +kernel
theorem dX8_mixes_25 : decode cX8_mixes 25 = .ok (.getfield 72, 3) := by decide +kernel
theorem dX8_mixes_28 : decode cX8_mixes 28 = .ok (.bipush 8, 2) := by decide +kernel
theorem dX8_mixes_30 : decode cX8_mixes 30 = .ok (.aload_n 0, 1) := by decide +kernel
theorem dX8_mixes_31 : decode cX8_mixes 31 = .ok (.getfield 20, 3) := by decide +kernel
theorem dX8_mixes_34 : decode cX8_mixes 34 = .ok (.iload 4, 2) := by decide +kernel
theorem dX8_mixes_36 : decode cX8_mixes 36 = .ok (.iaload, 1) := by decide +kernel
theorem dX8_mixes_37 : decode cX8_mixes 37 = .ok (.imul, 1) := by decide +kernel
theorem dX8_mixes_38 : decode cX8_mixes 38 = .ok (.aload_n 0, 1) := by decide +kernel
theorem dX8_mixes_39 : decode cX8_mixes 39 = .ok (.getfield 20, 3) := by decide +kernel
theorem dX8_mixes_42 : decode cX8_mixes 42 = .ok (.iload_n 1, 1) := by decide +kernel
theorem dX8_mixes_43 : decode cX8_mixes 43 = .ok (.iaload, 1) := by decide +kernel
theorem dX8_mixes_44 : decode cX8_mixes 44 = .ok (.iadd, 1) := by decide +kernel
theorem dX8_mixes_45 : decode cX8_mixes 45 = .ok (.iaload, 1) := by decide +kernel
theorem dX8_mixes_46 : decode cX8_mixes 46 = .ok (.ifCond .ne 4, 3) := by decide +kernel
theorem dX8_mixes_49 : decode cX8_mixes 49 = .ok (.return_, 1) := by decide +kernel
theorem dX8_mixes_50 : decode cX8_mixes 50 = .ok (.aload_n 0, 1) := by decide +kernel
theorem dX8_mixes_51 : decode cX8_mixes 51 = .ok (.getfield 72, 3) := by decide +kernel
theorem dX8_mixes_54 : decode cX8_mixes 54 = .ok (.bipush 8, 2) := by decide +kernel
theorem dX8_mixes_56 : decode cX8_mixes 56 = .ok (.aload_n 0, 1) := by decide +kernel
theorem dX8_mixes_57 : decode cX8_mixes 57 = .ok (.getfield 20, 3) := by decide +kernel
theorem dX8_mixes_60 : decode cX8_mixes 60 = .ok (.iload 4, 2) := by decide +kernel
theorem dX8_mixes_62 : decode cX8_mixes 62 = .ok (.iaload, 1) := by decide +kernel
theorem dX8_mixes_63 : decode cX8_mixes 63 = .ok (.imul, 1) := by decide +kernel
theorem dX8_mixes_64 : decode cX8_mixes 64 = .ok (.aload_n 0, 1) := by decide +kernel
theorem dX8_mixes_65 : decode cX8_mixes 65 = .ok (.getfield 20, 3) := by decide +kernel
theorem dX8_mixes_68 : decode cX8_mixes 68 = .ok (.iload_n 1, 1) := by decide +kernel
theorem dX8_mixes_69 : decode cX8_mixes 69 = .ok (.iaload, 1) := by decide +kernel
theorem dX8_mixes_70 : decode cX8_mixes 70 = .ok (.iadd, 1) := by decide +kernel
theorem dX8_mixes_71 : decode cX8_mixes 71 = .ok (.iaload, 1) := by decide +kernel
theorem dX8_mixes_72 : decode cX8_mixes 72 = .ok (.istore 5, 2) := by decide +kernel
theorem dX8_mixes_74 : decode cX8_mixes 74 = .ok (.aload_n 0, 1) := by decide +kernel
theorem dX8_mixes_75 : decode cX8_mixes 75 = .ok (.getfield 26, 3) := by decide +kernel
theorem dX8_mixes_78 : decode cX8_mixes 78 = .ok (.iload_n 1, 1) := by decide +kernel
theorem dX8_mixes_79 : decode cX8_mixes 79 = .ok (.iaload, 1) := by decide +kernel
theorem dX8_mixes_80 : decode cX8_mixes 80 = .ok (.iload 5, 2) := by decide +kernel
theorem dX8_mixes_82 : decode cX8_mixes 82 = .ok (.if_icmp .ge 13, 3) := by decide +kernel
theorem dX8_mixes_85 : decode cX8_mixes 85 = .ok (.aload_n 0, 1) := by decide +kernel
theorem dX8_mixes_86 : decode cX8_mixes 86 = .ok (.getfield 26, 3) := by decide +kernel
theorem dX8_mixes_89 : decode cX8_mixes 89 = .ok (.iload_n 1, 1) := by decide +kernel
theorem dX8_mixes_90 : decode cX8_mixes 90 = .ok (.dup2, 1) := by decide +kernel
theorem dX8_mixes_91 : decode cX8_mixes 91 = .ok (.iaload, 1) := by decide +kernel
theorem dX8_mixes_92 : decode cX8_mixes 92 = .ok (.iconst 1, 1) := by decide +kernel
theorem dX8_mixes_93 : decode cX8_mixes 93 = .ok (.iadd, 1) := by decide +kernel
theorem dX8_mixes_94 : decode cX8_mixes 94 = .ok (.iastore, 1) := by decide +kernel
theorem dX8_mixes_95 : decode cX8_mixes 95 = .ok (.aload_n 0, 1) := by decide +kernel
theorem dX8_mixes_96 : decode cX8_mixes 96 = .ok (.getfield 26, 3) := by decide +kernel
theorem dX8_mixes_99 : decode cX8_mixes 99 = .ok (.iload_n 1, 1) := by decide +kernel
theorem dX8_mixes_100 : decode cX8_mixes 100 = .ok (.iaload, 1) := by decide +kernel
theorem dX8_mixes_101 : decode cX8_mixes 101 = .ok (.iload 5, 2) := by decide +kernel
theorem dX8_mixes_103 : decode cX8_mixes 103 = .ok (.if_icmp .ge 4, 3) := by decide +kernel
theorem dX8_mixes_106 : decode cX8_mixes 106 = .ok (.return_, 1) := by decide +kernel
theorem dX8_mixes_107 : decode cX8_mixes 107 = .ok (.iload_n 1, 1) := by decide +kernel
theorem dX8_mixes_108 : decode cX8_mixes 108 = .ok (.iload 4, 2) := by decide +kernel
theorem dX8_mixes_110 : decode cX8_mixes 110 = .ok (.isub, 1) := by decide +kernel
theorem dX8_mixes_111 : decode cX8_mixes 111 = .ok (.iconst 1, 1) := by decide +kernel
theorem dX8_mixes_112 : decode cX8_mixes 112 = .ok (.isub, 1) := by decide +kernel
theorem dX8_mixes_113 : decode cX8_mixes 113 = .ok (.iconst 2, 1) := by decide +kernel
theorem dX8_mixes_114 : decode cX8_mixes 114 = .ok (.irem, 1) := by decide +kernel
theorem dX8_mixes_115 : decode cX8_mixes 115 = .ok (.ifCond .ne 7, 3) := by decide +kernel
theorem dX8_mixes_118 : decode cX8_mixes 118 = .ok (.iconst 1, 1) := by decide +kernel
theorem dX8_mixes_119 : decode cX8_mixes 119 = .ok (.goto 4, 3) := by decide +kernel
theorem dX8_mixes_122 : decode cX8_mixes 122 = .ok (.iconst 0, 1) := by decide +kernel
theorem dX8_mixes_123 : decode cX8_mixes 123 = .ok (.istore 6, 2) := by decide +kernel
theorem dX8_mixes_125 : decode cX8_mixes 125 = .ok (.iload 6, 2) := by decide +kernel
theorem dX8_mixes_127 : decode cX8_mixes 127 = .ok (.ifCond .eq 8, 3) := by decide +kernel
theorem dX8_mixes_130 : decode cX8_mixes 130 = .ok (.iload 4, 2) := by decide +kernel
theorem dX8_mixes_132 : decode cX8_mixes 132 = .ok (.goto 4, 3) := by decide +kernel
theorem dX8_mixes_135 : decode cX8_mixes 135 = .ok (.iload_n 1, 1) := by decide +kernel
theorem dX8_mixes_136 : decode cX8_mixes 136 = .ok (.istore 7, 2) := by decide +kernel
theorem dX8_mixes_138 : decode cX8_mixes 138 = .ok (.iload 6, 2) := by decide +kernel
theorem dX8_mixes_140 : decode cX8_mixes 140 = .ok (.ifCond .eq 10, 3) := by decide +kernel
theorem dX8_mixes_143 : decode cX8_mixes 143 = .ok (.iload 4, 2) := by decide +kernel
theorem dX8_mixes_145 : decode cX8_mixes 145 = .ok (.iconst 1, 1) := by decide +kernel
theorem dX8_mixes_146 : decode cX8_mixes 146 = .ok (.isub, 1) := by decide +kernel
theorem dX8_mixes_147 : decode cX8_mixes 147 = .ok (.goto 6, 3) := by decide +kernel
theorem dX8_mixes_150 : decode cX8_mixes 150 = .ok (.iload_n 1, 1) := by decide +kernel
theorem dX8_mixes_151 : decode cX8_mixes 151 = .ok (.iconst 1, 1) := by decide +kernel
theorem dX8_mixes_152 : decode cX8_mixes 152 = .ok (.iadd, 1) := by decide +kernel
theorem dX8_mixes_153 : decode cX8_mixes 153 = .ok (.istore 8, 2) := by decide +kernel
theorem dX8_mixes_155 : decode cX8_mixes 155 = .ok (.iload 8, 2) := by decide +kernel
theorem dX8_mixes_157 : decode cX8_mixes 157 = .ok (.iload_n 2, 1) := by decide +kernel
theorem dX8_mixes_158 : decode cX8_mixes 158 = .ok (.if_icmp .lt 35, 3) := by decide +kernel
theorem dX8_mixes_161 : decode cX8_mixes 161 = .ok (.iload 8, 2) := by decide +kernel
theorem dX8_mixes_163 : decode cX8_mixes 163 = .ok (.iload_n 3, 1) := by decide +kernel
theorem dX8_mixes_164 : decode cX8_mixes 164 = .ok (.if_icmp .ge 29, 3) := by decide +kernel
theorem dX8_mixes_167 : decode cX8_mixes 167 = .ok (.aload_n 0, 1) := by decide +kernel
theorem dX8_mixes_168 : decode cX8_mixes 168 = .ok (.iload 8, 2) := by decide +kernel
theorem dX8_mixes_170 : decode cX8_mixes 170 = .ok (.invokevirtual 146, 3) := by decide +kernel
theorem dX8_mixes_173 : decode cX8_mixes 173 = .ok (.ifCond .eq 20, 3) := by decide +kernel
theorem dX8_mixes_176 : decode cX8_mixes 176 = .ok (.aload_n 0, 1) := by decide +kernel
theorem dX8_mixes_177 : decode cX8_mixes 177 = .ok (.getfield 16, 3) := by decide +kernel
theorem dX8_mixes_180 : decode cX8_mixes 180 = .ok (.iload 8, 2) := by decide +kernel
theorem dX8_mixes_182 : decode cX8_mixes 182 = .ok (.iaload, 1) := by decide +kernel
theorem dX8_mixes_183 : decode cX8_mixes 183 = .ok (.aload_n 0, 1) := by decide +kernel
theorem dX8_mixes_184 : decode cX8_mixes 184 = .ok (.getfield 16, 3) := by decide +kernel
theorem dX8_mixes_187 : decode cX8_mixes 187 = .ok (.iload 7, 2) := by decide +kernel
theorem dX8_mixes_189 : decode cX8_mixes 189 = .ok (.iaload, 1) := by decide +kernel
theorem dX8_mixes_190 : decode cX8_mixes 190 = .ok (.if_icmp .eq 4, 3) := by decide +kernel
theorem dX8_mixes_193 : decode cX8_mixes 193 = .ok (.return_, 1) := by decide +kernel
theorem dX8_mixes_194 : decode cX8_mixes 194 = .ok (.aload_n 0, 1) := by decide +kernel
theorem dX8_mixes_195 : decode cX8_mixes 195 = .ok (.getfield 20, 3) := by decide +kernel
theorem dX8_mixes_198 : decode cX8_mixes 198 = .ok (.iload 4, 2) := by decide +kernel
theorem dX8_mixes_200 : decode cX8_mixes 200 = .ok (.iaload, 1) := by decide +kernel
theorem dX8_mixes_201 : decode cX8_mixes 201 = .ok (.istore 9, 2) := by decide +kernel
theorem dX8_mixes_203 : decode cX8_mixes 203 = .ok (.aload_n 0, 1) := by decide +kernel
theorem dX8_mixes_204 : decode cX8_mixes 204 = .ok (.getfield 20, 3) := by decide +kernel
theorem dX8_mixes_207 : decode cX8_mixes 207 = .ok (.iload_n 1, 1) := by decide +kernel
theorem dX8_mixes_208 : decode cX8_mixes 208 = .ok (.iaload, 1) := by decide +kernel
theorem dX8_mixes_209 : decode cX8_mixes 209 = .ok (.istore 10, 2) := by decide +kernel
theorem dX8_mixes_211 : decode cX8_mixes 211 = .ok (.aload_n 0, 1) := by decide +kernel
theorem dX8_mixes_212 : decode cX8_mixes 212 = .ok (.getfield 20, 3) := by decide +kernel
theorem dX8_mixes_215 : decode cX8_mixes 215 = .ok (.iload 7, 2) := by decide +kernel
theorem dX8_mixes_217 : decode cX8_mixes 217 = .ok (.iload 9, 2) := by decide +kernel
theorem dX8_mixes_219 : decode cX8_mixes 219 = .ok (.iastore, 1) := by decide +kernel
theorem dX8_mixes_220 : decode cX8_mixes 220 = .ok (.aload_n 0, 1) := by decide +kernel
theorem dX8_mixes_221 : decode cX8_mixes 221 = .ok (.getfield 23, 3) := by decide +kernel
theorem dX8_mixes_224 : decode cX8_mixes 224 = .ok (.iload 7, 2) := by decide +kernel
theorem dX8_mixes_226 : decode cX8_mixes 226 = .ok (.iload 10, 2) := by decide +kernel
theorem dX8_mixes_228 : decode cX8_mixes 228 = .ok (.iastore, 1) := by decide +kernel
theorem dX8_mixes_229 : decode cX8_mixes 229 = .ok (.aload_n 0, 1) := by decide +kernel
theorem dX8_mixes_230 : decode cX8_mixes 230 = .ok (.getfield 26, 3) := by decide +kernel
theorem dX8_mixes_233 : decode cX8_mixes 233 = .ok (.iload 6, 2) := by decide +kernel
theorem dX8_mixes_235 : decode cX8_mixes 235 = .ok (.ifCond .eq 7, 3) := by decide +kernel
theorem dX8_mixes_238 : decode cX8_mixes 238 = .ok (.iload_n 1, 1) := by decide +kernel
theorem dX8_mixes_239 : decode cX8_mixes 239 = .ok (.goto 5, 3) := by decide +kernel
theorem dX8_mixes_242 : decode cX8_mixes 242 = .ok (.iload 8, 2) := by decide +kernel
theorem dX8_mixes_244 : decode cX8_mixes 244 = .ok (.iconst 0, 1) := by decide +kernel
theorem dX8_mixes_245 : decode cX8_mixes 245 = .ok (.iastore, 1) := by decide +kernel
theorem dX8_mixes_246 : decode cX8_mixes 246 = .ok (.return_, 1) := by decide +kernel
theorem dX8_steps_0 : decode cX8_steps 0 = .ok (.aload_n 0, 1) := by decide +kernel
theorem dX8_steps_1 : decode cX8_steps 1 = .ok (.getfield 41, 3) := by decide +kernel
theorem dX8_steps_4 : decode cX8_steps 4 = .ok (.iload_n 1, 1) := by decide +kernel
theorem dX8_steps_5 : decode cX8_steps 5 = .ok (.iaload, 1) := by decide +kernel
theorem dX8_steps_6 : decode cX8_steps 6 = .ok (.istore 4, 2) := by decide +kernel
theorem dX8_steps_8 : decode cX8_steps 8 = .ok (.aload_n 0, 1) := by decide +kernel
theorem dX8_steps_9 : decode cX8_steps 9 = .ok (.getfield 41, 3) := by decide +kernel
theorem dX8_steps_12 : decode cX8_steps 12 = .ok (.iload_n 2, 1) := by decide +kernel
theorem dX8_steps_13 : decode cX8_steps 13 = .ok (.iaload, 1) := by decide +kernel
theorem dX8_steps_14 : decode cX8_steps 14 = .ok (.istore 5, 2) := by decide +kernel
theorem dX8_steps_16 : decode cX8_steps 16 = .ok (.bipush 8, 2) := by decide +kernel
theorem dX8_steps_18 : decode cX8_steps 18 = .ok (.iload_n 1, 1) := by decide +kernel
theorem dX8_steps_19 : decode cX8_steps 19 = .ok (.imul, 1) := by decide +kernel
theorem dX8_steps_20 : decode cX8_steps 20 = .ok (.iload_n 3, 1) := by decide +kernel
theorem dX8_steps_21 : decode cX8_steps 21 = .ok (.iadd, 1) := by decide +kernel
theorem dX8_steps_22 : decode cX8_steps 22 = .ok (.istore 6, 2) := by decide +kernel
theorem dX8_steps_24 : decode cX8_steps 24 = .ok (.aload_n 0, 1) := by decide +kernel
theorem dX8_steps_25 : decode cX8_steps 25 = .ok (.getfield 50, 3) := by decide +kernel
theorem dX8_steps_28 : decode cX8_steps 28 = .ok (.iload 6, 2) := by decide +kernel
theorem dX8_steps_30 : decode cX8_steps 30 = .ok (.baload, 1) := by decide +kernel
theorem dX8_steps_31 : decode cX8_steps 31 = .ok (.ifCond .eq 22, 3) := by decide +kernel
theorem dX8_steps_34 : decode cX8_steps 34 = .ok (.aload_n 0, 1) := by decide +kernel
theorem dX8_steps_35 : decode cX8_steps 35 = .ok (.getfield 60, 3) := by decide +kernel
theorem dX8_steps_38 : decode cX8_steps 38 = .ok (.iload 6, 2) := by decide +kernel
theorem dX8_steps_40 : decode cX8_steps 40 = .ok (.iaload, 1) := by decide +kernel
theorem dX8_steps_41 : decode cX8_steps 41 = .ok (.iconst 1, 1) := by decide +kernel
theorem dX8_steps_42 : decode cX8_steps 42 = .ok (.isub, 1) := by decide +kernel
theorem dX8_steps_43 : decode cX8_steps 43 = .ok (.aload_n 0, 1) := by decide +kernel
theorem dX8_steps_44 : decode cX8_steps 44 = .ok (.getfield 54, 3) := by decide +kernel
theorem dX8_steps_47 : decode cX8_steps 47 = .ok (.iload 6, 2) := by decide +kernel
theorem dX8_steps_49 : decode cX8_steps 49 = .ok (.iaload, 1) := by decide +kernel
theorem dX8_steps_50 : decode cX8_steps 50 = .ok (.if_icmp .ge 5, 3) := by decide +kernel
theorem dX8_steps_53 : decode cX8_steps 53 = .ok (.iconst 1, 1) := by decide +kernel
theorem dX8_steps_54 : decode cX8_steps 54 = .ok (.ireturn, 1) := by decide +kernel
theorem dX8_steps_55 : decode cX8_steps 55 = .ok (.aload_n 0, 1) := by decide +kernel
theorem dX8_steps_56 : decode cX8_steps 56 = .ok (.iload 5, 2) := by decide +kernel
theorem dX8_steps_58 : decode cX8_steps 58 = .ok (.iconst 1, 1) := by decide +kernel
theorem dX8_steps_59 : decode cX8_steps 59 = .ok (.isub, 1) := by decide +kernel
theorem dX8_steps_60 : decode cX8_steps 60 = .ok (.iload_n 2, 1) := by decide +kernel
theorem dX8_steps_61 : decode cX8_steps 61 = .ok (.invokevirtual 162, 3) := by decide +kernel
theorem dX8_steps_64 : decode cX8_steps 64 = .ok (.ifCond .eq 5, 3) := by decide +kernel
theorem dX8_steps_67 : decode cX8_steps 67 = .ok (.iconst 2, 1) := by decide +kernel
theorem dX8_steps_68 : decode cX8_steps 68 = .ok (.ireturn, 1) := by decide +kernel
theorem dX8_steps_69 : decode cX8_steps 69 = .ok (.iload 5, 2) := by decide +kernel
theorem dX8_steps_71 : decode cX8_steps 71 = .ok (.iconst 1, 1) := by decide +kernel
theorem dX8_steps_72 : decode cX8_steps 72 = .ok (.isub, 1) := by decide +kernel
theorem dX8_steps_73 : decode cX8_steps 73 = .ok (.istore 7, 2) := by decide +kernel
theorem dX8_steps_75 : decode cX8_steps 75 = .ok (.iload 7, 2) := by decide +kernel
theorem dX8_steps_77 : decode cX8_steps 77 = .ok (.iload 4, 2) := by decide +kernel
theorem dX8_steps_79 : decode cX8_steps 79 = .ok (.if_icmp .le 73, 3) := by decide +kernel
theorem dX8_steps_82 : decode cX8_steps 82 = .ok (.aload_n 0, 1) := by decide +kernel
theorem dX8_steps_83 : decode cX8_steps 83 = .ok (.getfield 16, 3) := by decide +kernel
theorem dX8_steps_86 : decode cX8_steps 86 = .ok (.iload 7, 2) := by decide +kernel
theorem dX8_steps_88 : decode cX8_steps 88 = .ok (.aload_n 0, 1) := by decide +kernel
theorem dX8_steps_89 : decode cX8_steps 89 = .ok (.getfield 16, 3) := by decide +kernel
theorem dX8_steps_92 : decode cX8_steps 92 = .ok (.iload 7, 2) := by decide +kernel
theorem dX8_steps_94 : decode cX8_steps 94 = .ok (.iconst 1, 1) := by decide +kernel
theorem dX8_steps_95 : decode cX8_steps 95 = .ok (.isub, 1) := by decide +kernel
theorem dX8_steps_96 : decode cX8_steps 96 = .ok (.iaload, 1) := by decide +kernel
theorem dX8_steps_97 : decode cX8_steps 97 = .ok (.iastore, 1) := by decide +kernel
theorem dX8_steps_98 : decode cX8_steps 98 = .ok (.aload_n 0, 1) := by decide +kernel
theorem dX8_steps_99 : decode cX8_steps 99 = .ok (.getfield 20, 3) := by decide +kernel
theorem dX8_steps_102 : decode cX8_steps 102 = .ok (.iload 7, 2) := by decide +kernel
theorem dX8_steps_104 : decode cX8_steps 104 = .ok (.aload_n 0, 1) := by decide +kernel
theorem dX8_steps_105 : decode cX8_steps 105 = .ok (.getfield 20, 3) := by decide +kernel
theorem dX8_steps_108 : decode cX8_steps 108 = .ok (.iload 7, 2) := by decide +kernel
theorem dX8_steps_110 : decode cX8_steps 110 = .ok (.iconst 1, 1) := by decide +kernel
theorem dX8_steps_111 : decode cX8_steps 111 = .ok (.isub, 1) := by decide +kernel
theorem dX8_steps_112 : decode cX8_steps 112 = .ok (.iaload, 1) := by decide +kernel
theorem dX8_steps_113 : decode cX8_steps 113 = .ok (.iastore, 1) := by decide +kernel
theorem dX8_steps_114 : decode cX8_steps 114 = .ok (.aload_n 0, 1) := by decide +kernel
theorem dX8_steps_115 : decode cX8_steps 115 = .ok (.getfield 23, 3) := by decide +kernel
theorem dX8_steps_118 : decode cX8_steps 118 = .ok (.iload 7, 2) := by decide +kernel
theorem dX8_steps_120 : decode cX8_steps 120 = .ok (.aload_n 0, 1) := by decide +kernel
theorem dX8_steps_121 : decode cX8_steps 121 = .ok (.getfield 23, 3) := by decide +kernel
theorem dX8_steps_124 : decode cX8_steps 124 = .ok (.iload 7, 2) := by decide +kernel
theorem dX8_steps_126 : decode cX8_steps 126 = .ok (.iconst 1, 1) := by decide +kernel
theorem dX8_steps_127 : decode cX8_steps 127 = .ok (.isub, 1) := by decide +kernel
theorem dX8_steps_128 : decode cX8_steps 128 = .ok (.iaload, 1) := by decide +kernel
theorem dX8_steps_129 : decode cX8_steps 129 = .ok (.iastore, 1) := by decide +kernel
theorem dX8_steps_130 : decode cX8_steps 130 = .ok (.aload_n 0, 1) := by decide +kernel
theorem dX8_steps_131 : decode cX8_steps 131 = .ok (.getfield 26, 3) := by decide +kernel
theorem dX8_steps_134 : decode cX8_steps 134 = .ok (.iload 7, 2) := by decide +kernel
theorem dX8_steps_136 : decode cX8_steps 136 = .ok (.aload_n 0, 1) := by decide +kernel
theorem dX8_steps_137 : decode cX8_steps 137 = .ok (.getfield 26, 3) := by decide +kernel
theorem dX8_steps_140 : decode cX8_steps 140 = .ok (.iload 7, 2) := by decide +kernel
theorem dX8_steps_142 : decode cX8_steps 142 = .ok (.iconst 1, 1) := by decide +kernel
theorem dX8_steps_143 : decode cX8_steps 143 = .ok (.isub, 1) := by decide +kernel
theorem dX8_steps_144 : decode cX8_steps 144 = .ok (.iaload, 1) := by decide +kernel
theorem dX8_steps_145 : decode cX8_steps 145 = .ok (.iastore, 1) := by decide +kernel
theorem dX8_steps_146 : decode cX8_steps 146 = .ok (.iinc 7 (-1), 3) := by decide +kernel
theorem dX8_steps_149 : decode cX8_steps 149 = .ok (.goto (-74), 3) := by decide +kernel
theorem dX8_steps_152 : decode cX8_steps 152 = .ok (.aload_n 0, 1) := by decide +kernel
theorem dX8_steps_153 : decode cX8_steps 153 = .ok (.getfield 16, 3) := by decide +kernel
theorem dX8_steps_156 : decode cX8_steps 156 = .ok (.iload 4, 2) := by decide +kernel
theorem dX8_steps_158 : decode cX8_steps 158 = .ok (.aload_n 0, 1) := by decide +kernel
theorem dX8_steps_159 : decode cX8_steps 159 = .ok (.getfield 29, 3) := by decide +kernel
theorem dX8_steps_162 : decode cX8_steps 162 = .ok (.iconst 1, 1) := by decide +kernel
theorem dX8_steps_163 : decode cX8_steps 163 = .ok (.isub, 1) := by decide +kernel
theorem dX8_steps_164 : decode cX8_steps 164 = .ok (.iastore, 1) := by decide +kernel
theorem dX8_steps_165 : decode cX8_steps 165 = .ok (.aload_n 0, 1) := by decide +kernel
theorem dX8_steps_166 : decode cX8_steps 166 = .ok (.getfield 20, 3) := by decide +kernel
theorem dX8_steps_169 : decode cX8_steps 169 = .ok (.iload 4, 2) := by decide +kernel
theorem dX8_steps_171 : decode cX8_steps 171 = .ok (.iload_n 3, 1) := by decide +kernel
theorem dX8_steps_172 : decode cX8_steps 172 = .ok (.iastore, 1) := by decide +kernel
theorem dX8_steps_173 : decode cX8_steps 173 = .ok (.aload_n 0, 1) := by decide +kernel
theorem dX8_steps_174 : decode cX8_steps 174 = .ok (.getfield 23, 3) := by decide +kernel
theorem dX8_steps_177 : decode cX8_steps 177 = .ok (.iload 4, 2) := by decide +kernel
theorem dX8_steps_179 : decode cX8_steps 179 = .ok (.iconst (-1), 1) := by decide +kernel
theorem dX8_steps_180 : decode cX8_steps 180 = .ok (.iastore, 1) := by decide +kernel
theorem dX8_steps_181 : decode cX8_steps 181 = .ok (.aload_n 0, 1) := by decide +kernel
theorem dX8_steps_182 : decode cX8_steps 182 = .ok (.getfield 26, 3) := by decide +kernel
theorem dX8_steps_185 : decode cX8_steps 185 = .ok (.iload 4, 2) := by decide +kernel
theorem dX8_steps_187 : decode cX8_steps 187 = .ok (.iconst 0, 1) := by decide +kernel
theorem dX8_steps_188 : decode cX8_steps 188 = .ok (.iastore, 1) := by decide +kernel
theorem dX8_steps_189 : decode cX8_steps 189 = .ok (.aload_n 0, 1) := by decide +kernel
theorem dX8_steps_190 : decode cX8_steps 190 = .ok (.getfield 60, 3) := by decide +kernel
theorem dX8_steps_193 : decode cX8_steps 193 = .ok (.iload 6, 2) := by decide +kernel
theorem dX8_steps_195 : decode cX8_steps 195 = .ok (.dup2, 1) := by decide +kernel
theorem dX8_steps_196 : decode cX8_steps 196 = .ok (.iaload, 1) := by decide +kernel
theorem dX8_steps_197 : decode cX8_steps 197 = .ok (.iconst 1, 1) := by decide +kernel
theorem dX8_steps_198 : decode cX8_steps 198 = .ok (.isub, 1) := by decide +kernel
theorem dX8_steps_199 : decode cX8_steps 199 = .ok (.iastore, 1) := by decide +kernel
theorem dX8_steps_200 : decode cX8_steps 200 = .ok (.aload_n 0, 1) := by decide +kernel
theorem dX8_steps_201 : decode cX8_steps 201 = .ok (.getfield 63, 3) := by decide +kernel
theorem dX8_steps_204 : decode cX8_steps 204 = .ok (.iload 6, 2) := by decide +kernel
theorem dX8_steps_206 : decode cX8_steps 206 = .ok (.iaload, 1) := by decide +kernel
theorem dX8_steps_207 : decode cX8_steps 207 = .ok (.aload_n 0, 1) := by decide +kernel
theorem dX8_steps_208 : decode cX8_steps 208 = .ok (.getfield 60, 3) := by decide +kernel
theorem dX8_steps_211 : decode cX8_steps 211 = .ok (.iload 6, 2) := by decide +kernel
theorem dX8_steps_213 : decode cX8_steps 213 = .ok (.iaload, 1) := by decide +kernel
theorem dX8_steps_214 : decode cX8_steps 214 = .ok (.if_icmp .le 17, 3) := by decide +kernel
theorem dX8_steps_217 : decode cX8_steps 217 = .ok (.aload_n 0, 1) := by decide +kernel
theorem dX8_steps_218 : decode cX8_steps 218 = .ok (.getfield 63, 3) := by decide +kernel
theorem dX8_steps_221 : decode cX8_steps 221 = .ok (.iload 6, 2) := by decide +kernel
theorem dX8_steps_223 : decode cX8_steps 223 = .ok (.aload_n 0, 1) := by decide +kernel
theorem dX8_steps_224 : decode cX8_steps 224 = .ok (.getfield 60, 3) := by decide +kernel
theorem dX8_steps_227 : decode cX8_steps 227 = .ok (.iload 6, 2) := by decide +kernel
theorem dX8_steps_229 : decode cX8_steps 229 = .ok (.iaload, 1) := by decide +kernel
theorem dX8_steps_230 : decode cX8_steps 230 = .ok (.iastore, 1) := by decide +kernel
theorem dX8_steps_231 : decode cX8_steps 231 = .ok (.iload 5, 2) := by decide +kernel
theorem dX8_steps_233 : decode cX8_steps 233 = .ok (.iconst 1, 1) := by decide +kernel
theorem dX8_steps_234 : decode cX8_steps 234 = .ok (.isub, 1) := by decide +kernel
theorem dX8_steps_235 : decode cX8_steps 235 = .ok (.istore 7, 2) := by decide +kernel
theorem dX8_steps_237 : decode cX8_steps 237 = .ok (.iload 7, 2) := by decide +kernel
theorem dX8_steps_239 : decode cX8_steps 239 = .ok (.iload 4, 2) := by decide +kernel
theorem dX8_steps_241 : decode cX8_steps 241 = .ok (.if_icmp .lt 19, 3) := by decide +kernel
theorem dX8_steps_244 : decode cX8_steps 244 = .ok (.aload_n 0, 1) := by decide +kernel
theorem dX8_steps_245 : decode cX8_steps 245 = .ok (.iload 7, 2) := by decide +kernel
theorem dX8_steps_247 : decode cX8_steps 247 = .ok (.iload 4, 2) := by decide +kernel
theorem dX8_steps_249 : decode cX8_steps 249 = .ok (.iload 5, 2) := by decide +kernel
theorem dX8_steps_251 : decode cX8_steps 251 = .ok (.invokevirtual 165, 3) := by decide +kernel
theorem dX8_steps_254 : decode cX8_steps 254 = .ok (.iinc 7 (-1), 3) := by decide +kernel
theorem dX8_steps_257 : decode cX8_steps 257 = .ok (.goto (-20), 3) := by decide +kernel
theorem dX8_steps_260 : decode cX8_steps 260 = .ok (.aload_n 0, 1) := by decide +kernel
theorem dX8_steps_261 : decode cX8_steps 261 = .ok (.iload 4, 2) := by decide +kernel
theorem dX8_steps_263 : decode cX8_steps 263 = .ok (.invokevirtual 169, 3) := by decide +kernel
theorem dX8_steps_266 : decode cX8_steps 266 = .ok (.ifCond .ne 14, 3) := by decide +kernel
theorem dX8_steps_269 : decode cX8_steps 269 = .ok (.aload_n 0, 1) := by decide +kernel
theorem dX8_steps_270 : decode cX8_steps 270 = .ok (.iload 5, 2) := by decide +kernel
theorem dX8_steps_272 : decode cX8_steps 272 = .ok (.iconst 1, 1) := by decide +kernel
theorem dX8_steps_273 : decode cX8_steps 273 = .ok (.isub, 1) := by decide +kernel
theorem dX8_steps_274 : decode cX8_steps 274 = .ok (.invokevirtual 169, 3) := by decide +kernel
theorem dX8_steps_277 : decode cX8_steps 277 = .ok (.ifCond .eq 7, 3) := by decide +kernel
theorem dX8_steps_280 : decode cX8_steps 280 = .ok (.iconst 3, 1) := by decide +kernel
theorem dX8_steps_281 : decode cX8_steps 281 = .ok (.goto 4, 3) := by decide +kernel
theorem dX8_steps_284 : decode cX8_steps 284 = .ok (.iconst 0, 1) := by decide +kernel
theorem dX8_steps_285 : decode cX8_steps 285 = .ok (.ireturn, 1) := by decide +kernel
theorem dX8_ends_0 : decode cX8_ends 0 = .ok (.aload_n 0, 1) := by decide +kernel
theorem dX8_ends_1 : decode cX8_ends 1 = .ok (.getfield 44, 3) := by decide +kernel
theorem dX8_ends_4 : decode cX8_ends 4 = .ok (.iload_n 1, 1) := by decide +kernel
theorem dX8_ends_5 : decode cX8_ends 5 = .ok (.iaload, 1) := by decide +kernel
theorem dX8_ends_6 : decode cX8_ends 6 = .ok (.aload_n 0, 1) := by decide +kernel
theorem dX8_ends_7 : decode cX8_ends 7 = .ok (.getfield 44, 3) := by decide +kernel
theorem dX8_ends_10 : decode cX8_ends 10 = .ok (.iload_n 2, 1) := by decide +kernel
theorem dX8_ends_11 : decode cX8_ends 11 = .ok (.iaload, 1) := by decide +kernel
theorem dX8_ends_12 : decode cX8_ends 12 = .ok (.if_icmp .ge 12, 3) := by decide +kernel
theorem dX8_ends_15 : decode cX8_ends 15 = .ok (.aload_n 0, 1) := by decide +kernel
theorem dX8_ends_16 : decode cX8_ends 16 = .ok (.getfield 44, 3) := by decide +kernel
theorem dX8_ends_19 : decode cX8_ends 19 = .ok (.iload_n 1, 1) := by decide +kernel
theorem dX8_ends_20 : decode cX8_ends 20 = .ok (.iaload, 1) := by decide +kernel
theorem dX8_ends_21 : decode cX8_ends 21 = .ok (.goto 9, 3) := by decide +kernel
theorem dX8_ends_24 : decode cX8_ends 24 = .ok (.aload_n 0, 1) := by decide +kernel
theorem dX8_ends_25 : decode cX8_ends 25 = .ok (.getfield 44, 3) := by decide +kernel
theorem dX8_ends_28 : decode cX8_ends 28 = .ok (.iload_n 2, 1) := by decide +kernel
theorem dX8_ends_29 : decode cX8_ends 29 = .ok (.iaload, 1) := by decide +kernel
theorem dX8_ends_30 : decode cX8_ends 30 = .ok (.istore 4, 2) := by decide +kernel
theorem dX8_ends_32 : decode cX8_ends 32 = .ok (.iload_n 3, 1) := by decide +kernel
theorem dX8_ends_33 : decode cX8_ends 33 = .ok (.istore 5, 2) := by decide +kernel
theorem dX8_ends_35 : decode cX8_ends 35 = .ok (.iload 5, 2) := by decide +kernel
theorem dX8_ends_37 : decode cX8_ends 37 = .ok (.ifCond .le 44, 3) := by decide +kernel
theorem dX8_ends_40 : decode cX8_ends 40 = .ok (.aload_n 0, 1) := by decide +kernel
theorem dX8_ends_41 : decode cX8_ends 41 = .ok (.dup, 1) := by decide +kernel
theorem dX8_ends_42 : decode cX8_ends 42 = .ok (.getfield 117, 3) := by decide +kernel
theorem dX8_ends_45 : decode cX8_ends 45 = .ok (.aload_n 0, 1) := by decide +kernel
theorem dX8_ends_46 : decode cX8_ends 46 = .ok (.getfield 78, 3) := by decide +kernel
theorem dX8_ends_49 : decode cX8_ends 49 = .ok (.aload_n 0, 1) := by decide +kernel
theorem dX8_ends_50 : decode cX8_ends 50 = .ok (.getfield 114, 3) := by decide +kernel
theorem dX8_ends_53 : decode cX8_ends 53 = .ok (.bipush 24, 2) := by decide +kernel
theorem dX8_ends_55 : decode cX8_ends 55 = .ok (.irem, 1) := by decide +kernel
theorem dX8_ends_56 : decode cX8_ends 56 = .ok (.iaload, 1) := by decide +kernel
theorem dX8_ends_57 : decode cX8_ends 57 = .ok (.iadd, 1) := by decide +kernel
theorem dX8_ends_58 : decode cX8_ends 58 = .ok (.putfield 117, 3) := by decide +kernel
theorem dX8_ends_61 : decode cX8_ends 61 = .ok (.aload_n 0, 1) := by decide +kernel
theorem dX8_ends_62 : decode cX8_ends 62 = .ok (.dup, 1) := by decide +kernel
theorem dX8_ends_63 : decode cX8_ends 63 = .ok (.getfield 114, 3) := by decide +kernel
theorem dX8_ends_66 : decode cX8_ends 66 = .ok (.iconst 1, 1) := by decide +kernel
theorem dX8_ends_67 : decode cX8_ends 67 = .ok (.iadd, 1) := by decide +kernel
theorem dX8_ends_68 : decode cX8_ends 68 = .ok (.putfield 114, 3) := by decide +kernel
theorem dX8_ends_71 : decode cX8_ends 71 = .ok (.iload 5, 2) := by decide +kernel
theorem dX8_ends_73 : decode cX8_ends 73 = .ok (.iload 4, 2) := by decide +kernel
theorem dX8_ends_75 : decode cX8_ends 75 = .ok (.isub, 1) := by decide +kernel
theorem dX8_ends_76 : decode cX8_ends 76 = .ok (.istore 5, 2) := by decide +kernel
theorem dX8_ends_78 : decode cX8_ends 78 = .ok (.goto (-43), 3) := by decide +kernel
theorem dX8_ends_81 : decode cX8_ends 81 = .ok (.iconst 0, 1) := by decide +kernel
theorem dX8_ends_82 : decode cX8_ends 82 = .ok (.istore 5, 2) := by decide +kernel
theorem dX8_ends_84 : decode cX8_ends 84 = .ok (.iload 5, 2) := by decide +kernel
theorem dX8_ends_86 : decode cX8_ends 86 = .ok (.aload_n 0, 1) := by decide +kernel
theorem dX8_ends_87 : decode cX8_ends 87 = .ok (.getfield 111, 3) := by decide +kernel
theorem dX8_ends_90 : decode cX8_ends 90 = .ok (.if_icmp .ge 61, 3) := by decide +kernel
theorem dX8_ends_93 : decode cX8_ends 93 = .ok (.aload_n 0, 1) := by decide +kernel
theorem dX8_ends_94 : decode cX8_ends 94 = .ok (.getfield 93, 3) := by decide +kernel
theorem dX8_ends_97 : decode cX8_ends 97 = .ok (.iload 5, 2) := by decide +kernel
theorem dX8_ends_99 : decode cX8_ends 99 = .ok (.iaload, 1) := by decide +kernel
theorem dX8_ends_100 : decode cX8_ends 100 = .ok (.iconst (-1), 1) := by decide +kernel
theorem dX8_ends_101 : decode cX8_ends 101 = .ok (.if_icmp .ne 44, 3) := by decide +kernel
theorem dX8_ends_104 : decode cX8_ends 104 = .ok (.aload_n 0, 1) := by decide +kernel
theorem dX8_ends_105 : decode cX8_ends 105 = .ok (.getfield 66, 3) := by decide +kernel
theorem dX8_ends_108 : decode cX8_ends 108 = .ok (.aload_n 0, 1) := by decide +kernel
theorem dX8_ends_109 : decode cX8_ends 109 = .ok (.getfield 81, 3) := by decide +kernel
theorem dX8_ends_112 : decode cX8_ends 112 = .ok (.iload 5, 2) := by decide +kernel
theorem dX8_ends_114 : decode cX8_ends 114 = .ok (.iaload, 1) := by decide +kernel
theorem dX8_ends_115 : decode cX8_ends 115 = .ok (.iaload, 1) := by decide +kernel
theorem dX8_ends_116 : decode cX8_ends 116 = .ok (.aload_n 0, 1) := by decide +kernel
theorem dX8_ends_117 : decode cX8_ends 117 = .ok (.getfield 90, 3) := by decide +kernel
theorem dX8_ends_120 : decode cX8_ends 120 = .ok (.iload 5, 2) := by decide +kernel
theorem dX8_ends_122 : decode cX8_ends 122 = .ok (.iaload, 1) := by decide +kernel
theorem dX8_ends_123 : decode cX8_ends 123 = .ok (.isub, 1) := by decide +kernel
theorem dX8_ends_124 : decode cX8_ends 124 = .ok (.aload_n 0, 1) := by decide +kernel
theorem dX8_ends_125 : decode cX8_ends 125 = .ok (.getfield 84, 3) := by decide +kernel
theorem dX8_ends_128 : decode cX8_ends 128 = .ok (.iload 5, 2) := by decide +kernel
theorem dX8_ends_130 : decode cX8_ends 130 = .ok (.iaload, 1) := by decide +kernel
theorem dX8_ends_131 : decode cX8_ends 131 = .ok (.if_icmp .lt 14, 3) := by decide +kernel
theorem dX8_ends_134 : decode cX8_ends 134 = .ok (.aload_n 0, 1) := by decide +kernel
theorem dX8_ends_135 : decode cX8_ends 135 = .ok (.getfield 93, 3) := by decide +kernel
theorem dX8_ends_138 : decode cX8_ends 138 = .ok (.iload 5, 2) := by decide +kernel
theorem dX8_ends_140 : decode cX8_ends 140 = .ok (.aload_n 0, 1) := by decide +kernel
theorem dX8_ends_141 : decode cX8_ends 141 = .ok (.getfield 114, 3) := by decide +kernel
theorem dX8_ends_144 : decode cX8_ends 144 = .ok (.iastore, 1) := by decide +kernel
theorem dX8_ends_145 : decode cX8_ends 145 = .ok (.iinc 5 1, 3) := by decide +kernel
theorem dX8_ends_148 : decode cX8_ends 148 = .ok (.goto (-64), 3) := by decide +kernel
theorem dX8_ends_151 : decode cX8_ends 151 = .ok (.return_, 1) := by decide +kernel
theorem dX8_tries_0 : decode cX8_tries 0 = .ok (.aload_n 0, 1) := by decide +kernel
theorem dX8_tries_1 : decode cX8_tries 1 = .ok (.iload_n 1, 1) := by decide +kernel
theorem dX8_tries_2 : decode cX8_tries 2 = .ok (.invokevirtual 123, 3) := by decide +kernel
theorem dX8_tries_5 : decode cX8_tries 5 = .ok (.ifCond .eq 18, 3) := by decide +kernel
theorem dX8_tries_8 : decode cX8_tries 8 = .ok (.aload_n 0, 1) := by decide +kernel
theorem dX8_tries_9 : decode cX8_tries 9 = .ok (.iload_n 2, 1) := by decide +kernel
theorem dX8_tries_10 : decode cX8_tries 10 = .ok (.invokevirtual 123, 3) := by decide +kernel
theorem dX8_tries_13 : decode cX8_tries 13 = .ok (.ifCond .eq 10, 3) := by decide +kernel
theorem dX8_tries_16 : decode cX8_tries 16 = .ok (.iload_n 3, 1) := by decide +kernel
theorem dX8_tries_17 : decode cX8_tries 17 = .ok (.invokestatic 127, 3) := by decide +kernel
theorem dX8_tries_20 : decode cX8_tries 20 = .ok (.ifCond .ne 5, 3) := by decide +kernel
theorem dX8_tries_23 : decode cX8_tries 23 = .ok (.iconst (-1), 1) := by decide +kernel
theorem dX8_tries_24 : decode cX8_tries 24 = .ok (.ireturn, 1) := by decide +kernel
theorem dX8_tries_25 : decode cX8_tries 25 = .ok (.aload_n 0, 1) := by decide +kernel
theorem dX8_tries_26 : decode cX8_tries 26 = .ok (.getfield 41, 3) := by decide +kernel
theorem dX8_tries_29 : decode cX8_tries 29 = .ok (.iload_n 2, 1) := by decide +kernel
theorem dX8_tries_30 : decode cX8_tries 30 = .ok (.iaload, 1) := by decide +kernel
theorem dX8_tries_31 : decode cX8_tries 31 = .ok (.aload_n 0, 1) := by decide +kernel
theorem dX8_tries_32 : decode cX8_tries 32 = .ok (.getfield 41, 3) := by decide +kernel
theorem dX8_tries_35 : decode cX8_tries 35 = .ok (.iload_n 1, 1) := by decide +kernel
theorem dX8_tries_36 : decode cX8_tries 36 = .ok (.iaload, 1) := by decide +kernel
theorem dX8_tries_37 : decode cX8_tries 37 = .ok (.if_icmp .le 14, 3) := by decide +kernel
theorem dX8_tries_40 : decode cX8_tries 40 = .ok (.iload 4, 2) := by decide +kernel
theorem dX8_tries_42 : decode cX8_tries 42 = .ok (.iconst 1, 1) := by decide +kernel
theorem dX8_tries_43 : decode cX8_tries 43 = .ok (.bipush 60, 2) := by decide +kernel
theorem dX8_tries_45 : decode cX8_tries 45 = .ok (.invokestatic 104, 3) := by decide +kernel
theorem dX8_tries_48 : decode cX8_tries 48 = .ok (.ifCond .ne 6, 3) := by decide +kernel
theorem dX8_tries_51 : decode cX8_tries 51 = .ok (.bipush (-2), 2) := by decide +kernel
theorem dX8_tries_53 : decode cX8_tries 53 = .ok (.ireturn, 1) := by decide +kernel
theorem dX8_tries_54 : decode cX8_tries 54 = .ok (.aload_n 0, 1) := by decide +kernel
theorem dX8_tries_55 : decode cX8_tries 55 = .ok (.getfield 29, 3) := by decide +kernel
theorem dX8_tries_58 : decode cX8_tries 58 = .ok (.sipush 200, 3) := by decide +kernel
theorem dX8_tries_61 : decode cX8_tries 61 = .ok (.if_icmp .ne 6, 3) := by decide +kernel
theorem dX8_tries_64 : decode cX8_tries 64 = .ok (.bipush (-4), 2) := by decide +kernel
theorem dX8_tries_66 : decode cX8_tries 66 = .ok (.ireturn, 1) := by decide +kernel
theorem dX8_tries_67 : decode cX8_tries 67 = .ok (.aload_n 0, 1) := by decide +kernel
theorem dX8_tries_68 : decode cX8_tries 68 = .ok (.invokevirtual 172, 3) := by decide +kernel
theorem dX8_tries_71 : decode cX8_tries 71 = .ok (.aload_n 0, 1) := by decide +kernel
theorem dX8_tries_72 : decode cX8_tries 72 = .ok (.getfield 32, 3) := by decide +kernel
theorem dX8_tries_75 : decode cX8_tries 75 = .ok (.aload_n 0, 1) := by decide +kernel
theorem dX8_tries_76 : decode cX8_tries 76 = .ok (.getfield 29, 3) := by decide +kernel
theorem dX8_tries_79 : decode cX8_tries 79 = .ok (.iload_n 3, 1) := by decide +kernel
theorem dX8_tries_80 : decode cX8_tries 80 = .ok (.iastore, 1) := by decide +kernel
theorem dX8_tries_81 : decode cX8_tries 81 = .ok (.aload_n 0, 1) := by decide +kernel
theorem dX8_tries_82 : decode cX8_tries 82 = .ok (.getfield 35, 3) := by decide +kernel
theorem dX8_tries_85 : decode cX8_tries 85 = .ok (.aload_n 0, 1) := by decide +kernel
theorem dX8_tries_86 : decode cX8_tries 86 = .ok (.getfield 29, 3) := by decide +kernel
theorem dX8_tries_89 : decode cX8_tries 89 = .ok (.iload_n 1, 1) := by decide +kernel
theorem dX8_tries_90 : decode cX8_tries 90 = .ok (.iastore, 1) := by decide +kernel
theorem dX8_tries_91 : decode cX8_tries 91 = .ok (.aload_n 0, 1) := by decide +kernel
theorem dX8_tries_92 : decode cX8_tries 92 = .ok (.getfield 38, 3) := by decide +kernel
theorem dX8_tries_95 : decode cX8_tries 95 = .ok (.aload_n 0, 1) := by decide +kernel
theorem dX8_tries_96 : decode cX8_tries 96 = .ok (.getfield 29, 3) := by decide +kernel
theorem dX8_tries_99 : decode cX8_tries 99 = .ok (.iconst 0, 1) := by decide +kernel
theorem dX8_tries_100 : decode cX8_tries 100 = .ok (.iastore, 1) := by decide +kernel
theorem dX8_tries_101 : decode cX8_tries 101 = .ok (.aload_n 0, 1) := by decide +kernel
theorem dX8_tries_102 : decode cX8_tries 102 = .ok (.dup, 1) := by decide +kernel
theorem dX8_tries_103 : decode cX8_tries 103 = .ok (.getfield 29, 3) := by decide +kernel
theorem dX8_tries_106 : decode cX8_tries 106 = .ok (.iconst 1, 1) := by decide +kernel
theorem dX8_tries_107 : decode cX8_tries 107 = .ok (.iadd, 1) := by decide +kernel
theorem dX8_tries_108 : decode cX8_tries 108 = .ok (.putfield 29, 3) := by decide +kernel
theorem dX8_tries_111 : decode cX8_tries 111 = .ok (.iconst 0, 1) := by decide +kernel
theorem dX8_tries_112 : decode cX8_tries 112 = .ok (.istore 5, 2) := by decide +kernel
theorem dX8_tries_114 : decode cX8_tries 114 = .ok (.iload 5, 2) := by decide +kernel
theorem dX8_tries_116 : decode cX8_tries 116 = .ok (.iload 4, 2) := by decide +kernel
theorem dX8_tries_118 : decode cX8_tries 118 = .ok (.if_icmp .ge 33, 3) := by decide +kernel
theorem dX8_tries_121 : decode cX8_tries 121 = .ok (.aload_n 0, 1) := by decide +kernel
theorem dX8_tries_122 : decode cX8_tries 122 = .ok (.iload_n 1, 1) := by decide +kernel
theorem dX8_tries_123 : decode cX8_tries 123 = .ok (.iload_n 2, 1) := by decide +kernel
theorem dX8_tries_124 : decode cX8_tries 124 = .ok (.iload_n 3, 1) := by decide +kernel
theorem dX8_tries_125 : decode cX8_tries 125 = .ok (.invokevirtual 175, 3) := by decide +kernel
theorem dX8_tries_128 : decode cX8_tries 128 = .ok (.istore 6, 2) := by decide +kernel
theorem dX8_tries_130 : decode cX8_tries 130 = .ok (.iload 6, 2) := by decide +kernel
theorem dX8_tries_132 : decode cX8_tries 132 = .ok (.ifCond .le 13, 3) := by decide +kernel
theorem dX8_tries_135 : decode cX8_tries 135 = .ok (.aload_n 0, 1) := by decide +kernel
theorem dX8_tries_136 : decode cX8_tries 136 = .ok (.invokevirtual 179, 3) := by decide +kernel
theorem dX8_tries_139 : decode cX8_tries 139 = .ok (.bipush (-10), 2) := by decide +kernel
theorem dX8_tries_141 : decode cX8_tries 141 = .ok (.iload 6, 2) := by decide +kernel
theorem dX8_tries_143 : decode cX8_tries 143 = .ok (.isub, 1) := by decide +kernel
theorem dX8_tries_144 : decode cX8_tries 144 = .ok (.ireturn, 1) := by decide +kernel
theorem dX8_tries_145 : decode cX8_tries 145 = .ok (.iinc 5 1, 3) := by decide +kernel
theorem dX8_tries_148 : decode cX8_tries 148 = .ok (.goto (-34), 3) := by decide +kernel
theorem dX8_tries_151 : decode cX8_tries 151 = .ok (.aload_n 0, 1) := by decide +kernel
theorem dX8_tries_152 : decode cX8_tries 152 = .ok (.iload_n 1, 1) := by decide +kernel
theorem dX8_tries_153 : decode cX8_tries 153 = .ok (.iload_n 2, 1) := by decide +kernel
theorem dX8_tries_154 : decode cX8_tries 154 = .ok (.iload 4, 2) := by decide +kernel
theorem dX8_tries_156 : decode cX8_tries 156 = .ok (.invokevirtual 182, 3) := by decide +kernel
theorem dX8_tries_159 : decode cX8_tries 159 = .ok (.aload_n 0, 1) := by decide +kernel
theorem dX8_tries_160 : decode cX8_tries 160 = .ok (.getfield 29, 3) := by decide +kernel
theorem dX8_tries_163 : decode cX8_tries 163 = .ok (.iconst 1, 1) := by decide +kernel
theorem dX8_tries_164 : decode cX8_tries 164 = .ok (.isub, 1) := by decide +kernel
theorem dX8_tries_165 : decode cX8_tries 165 = .ok (.ireturn, 1) := by decide +kernel
theorem dX8_push_0 : decode cX8_push 0 = .ok (.aload_n 0, 1) := by decide +kernel
theorem dX8_push_1 : decode cX8_push 1 = .ok (.iload_n 1, 1) := by decide +kernel
theorem dX8_push_2 : decode cX8_push 2 = .ok (.iload_n 2, 1) := by decide +kernel
theorem dX8_push_3 : decode cX8_push 3 = .ok (.iload_n 3, 1) := by decide +kernel
theorem dX8_push_4 : decode cX8_push 4 = .ok (.iload 4, 2) := by decide +kernel
theorem dX8_push_6 : decode cX8_push 6 = .ok (.invokevirtual 185, 3) := by decide +kernel
theorem dX8_push_9 : decode cX8_push 9 = .ok (.istore 5, 2) := by decide +kernel
theorem dX8_push_11 : decode cX8_push 11 = .ok (.aload_n 0, 1) := by decide +kernel
theorem dX8_push_12 : decode cX8_push 12 = .ok (.dup, 1) := by decide +kernel
theorem dX8_push_13 : decode cX8_push 13 = .ok (.getfield 120, 3) := by decide +kernel
theorem dX8_push_16 : decode cX8_push 16 = .ok (.iload 5, 2) := by decide +kernel
theorem dX8_push_18 : decode cX8_push 18 = .ok (.ifCond .lt 7, 3) := by decide +kernel
theorem dX8_push_21 : decode cX8_push 21 = .ok (.iconst 1, 1) := by decide +kernel
theorem dX8_push_22 : decode cX8_push 22 = .ok (.goto 4, 3) := by decide +kernel
theorem dX8_push_25 : decode cX8_push 25 = .ok (.iconst 0, 1) := by decide +kernel
theorem dX8_push_26 : decode cX8_push 26 = .ok (.iadd, 1) := by decide +kernel
theorem dX8_push_27 : decode cX8_push 27 = .ok (.putfield 120, 3) := by decide +kernel
theorem dX8_push_30 : decode cX8_push 30 = .ok (.iload 5, 2) := by decide +kernel
theorem dX8_push_32 : decode cX8_push 32 = .ok (.ireturn, 1) := by decide +kernel
theorem dX8_trial_0 : decode cX8_trial 0 = .ok (.aload_n 0, 1) := by decide +kernel
theorem dX8_trial_1 : decode cX8_trial 1 = .ok (.iload_n 1, 1) := by decide +kernel
theorem dX8_trial_2 : decode cX8_trial 2 = .ok (.iload_n 2, 1) := by decide +kernel
theorem dX8_trial_3 : decode cX8_trial 3 = .ok (.iload_n 3, 1) := by decide +kernel
theorem dX8_trial_4 : decode cX8_trial 4 = .ok (.iload 4, 2) := by decide +kernel
theorem dX8_trial_6 : decode cX8_trial 6 = .ok (.invokevirtual 185, 3) := by decide +kernel
theorem dX8_trial_9 : decode cX8_trial 9 = .ok (.istore 5, 2) := by decide +kernel
theorem dX8_trial_11 : decode cX8_trial 11 = .ok (.iload 5, 2) := by decide +kernel
theorem dX8_trial_13 : decode cX8_trial 13 = .ok (.ifCond .lt 7, 3) := by decide +kernel
theorem dX8_trial_16 : decode cX8_trial 16 = .ok (.aload_n 0, 1) := by decide +kernel
theorem dX8_trial_17 : decode cX8_trial 17 = .ok (.invokevirtual 179, 3) := by decide +kernel
theorem dX8_trial_20 : decode cX8_trial 20 = .ok (.iload 5, 2) := by decide +kernel
theorem dX8_trial_22 : decode cX8_trial 22 = .ok (.ireturn, 1) := by decide +kernel
theorem dX8_undo_0 : decode cX8_undo 0 = .ok (.aload_n 0, 1) := by decide +kernel
theorem dX8_undo_1 : decode cX8_undo 1 = .ok (.getfield 120, 3) := by decide +kernel
theorem dX8_undo_4 : decode cX8_undo 4 = .ok (.ifCond .ne 6, 3) := by decide +kernel
theorem dX8_undo_7 : decode cX8_undo 7 = .ok (.bipush (-3), 2) := by decide +kernel
theorem dX8_undo_9 : decode cX8_undo 9 = .ok (.ireturn, 1) := by decide +kernel
theorem dX8_undo_10 : decode cX8_undo 10 = .ok (.aload_n 0, 1) := by decide +kernel
theorem dX8_undo_11 : decode cX8_undo 11 = .ok (.dup, 1) := by decide +kernel
theorem dX8_undo_12 : decode cX8_undo 12 = .ok (.getfield 120, 3) := by decide +kernel
theorem dX8_undo_15 : decode cX8_undo 15 = .ok (.iconst 1, 1) := by decide +kernel
theorem dX8_undo_16 : decode cX8_undo 16 = .ok (.isub, 1) := by decide +kernel
theorem dX8_undo_17 : decode cX8_undo 17 = .ok (.putfield 120, 3) := by decide +kernel
theorem dX8_undo_20 : decode cX8_undo 20 = .ok (.aload_n 0, 1) := by decide +kernel
theorem dX8_undo_21 : decode cX8_undo 21 = .ok (.invokevirtual 179, 3) := by decide +kernel
theorem dX8_undo_24 : decode cX8_undo 24 = .ok (.aload_n 0, 1) := by decide +kernel
theorem dX8_undo_25 : decode cX8_undo 25 = .ok (.getfield 29, 3) := by decide +kernel
theorem dX8_undo_28 : decode cX8_undo 28 = .ok (.ireturn, 1) := by decide +kernel
theorem dX8_at_0 : decode cX8_at 0 = .ok (.iload_n 1, 1) := by decide +kernel
theorem dX8_at_1 : decode cX8_at 1 = .ok (.iconst 0, 1) := by decide +kernel
theorem dX8_at_2 : decode cX8_at 2 = .ok (.aload_n 0, 1) := by decide +kernel
theorem dX8_at_3 : decode cX8_at 3 = .ok (.getfield 13, 3) := by decide +kernel
theorem dX8_at_6 : decode cX8_at 6 = .ok (.iconst 1, 1) := by decide +kernel
theorem dX8_at_7 : decode cX8_at 7 = .ok (.isub, 1) := by decide +kernel
theorem dX8_at_8 : decode cX8_at 8 = .ok (.invokestatic 104, 3) := by decide +kernel
theorem dX8_at_11 : decode cX8_at 11 = .ok (.ifCond .ne 5, 3) := by decide +kernel
theorem dX8_at_14 : decode cX8_at 14 = .ok (.iconst (-1), 1) := by decide +kernel
theorem dX8_at_15 : decode cX8_at 15 = .ok (.ireturn, 1) := by decide +kernel
theorem dX8_at_16 : decode cX8_at 16 = .ok (.iload_n 2, 1) := by decide +kernel
theorem dX8_at_17 : decode cX8_at 17 = .ok (.tableswitch 72 0 3 #[31, 38, 45, 52], 31) := by decide +kernel
theorem dX8_at_48 : decode cX8_at 48 = .ok (.aload_n 0, 1) := by decide +kernel
theorem dX8_at_49 : decode cX8_at 49 = .ok (.getfield 16, 3) := by decide +kernel
theorem dX8_at_52 : decode cX8_at 52 = .ok (.iload_n 1, 1) := by decide +kernel
theorem dX8_at_53 : decode cX8_at 53 = .ok (.iaload, 1) := by decide +kernel
theorem dX8_at_54 : decode cX8_at 54 = .ok (.ireturn, 1) := by decide +kernel
theorem dX8_at_55 : decode cX8_at 55 = .ok (.aload_n 0, 1) := by decide +kernel
theorem dX8_at_56 : decode cX8_at 56 = .ok (.getfield 20, 3) := by decide +kernel
theorem dX8_at_59 : decode cX8_at 59 = .ok (.iload_n 1, 1) := by decide +kernel
theorem dX8_at_60 : decode cX8_at 60 = .ok (.iaload, 1) := by decide +kernel
theorem dX8_at_61 : decode cX8_at 61 = .ok (.ireturn, 1) := by decide +kernel
theorem dX8_at_62 : decode cX8_at 62 = .ok (.aload_n 0, 1) := by decide +kernel
theorem dX8_at_63 : decode cX8_at 63 = .ok (.getfield 23, 3) := by decide +kernel
theorem dX8_at_66 : decode cX8_at 66 = .ok (.iload_n 1, 1) := by decide +kernel
theorem dX8_at_67 : decode cX8_at 67 = .ok (.iaload, 1) := by decide +kernel
theorem dX8_at_68 : decode cX8_at 68 = .ok (.ireturn, 1) := by decide +kernel
theorem dX8_at_69 : decode cX8_at 69 = .ok (.aload_n 0, 1) := by decide +kernel
theorem dX8_at_70 : decode cX8_at 70 = .ok (.iload_n 1, 1) := by decide +kernel
theorem dX8_at_71 : decode cX8_at 71 = .ok (.invokevirtual 159, 3) := by decide +kernel
theorem dX8_at_74 : decode cX8_at 74 = .ok (.iconst (-1), 1) := by decide +kernel
theorem dX8_at_75 : decode cX8_at 75 = .ok (.if_icmp .ne 7, 3) := by decide +kernel
theorem dX8_at_78 : decode cX8_at 78 = .ok (.iconst 0, 1) := by decide +kernel
theorem dX8_at_79 : decode cX8_at 79 = .ok (.goto 9, 3) := by decide +kernel
theorem dX8_at_82 : decode cX8_at 82 = .ok (.aload_n 0, 1) := by decide +kernel
theorem dX8_at_83 : decode cX8_at 83 = .ok (.getfield 26, 3) := by decide +kernel
theorem dX8_at_86 : decode cX8_at 86 = .ok (.iload_n 1, 1) := by decide +kernel
theorem dX8_at_87 : decode cX8_at 87 = .ok (.iaload, 1) := by decide +kernel
theorem dX8_at_88 : decode cX8_at 88 = .ok (.ireturn, 1) := by decide +kernel
theorem dX8_at_89 : decode cX8_at 89 = .ok (.iconst (-1), 1) := by decide +kernel
theorem dX8_at_90 : decode cX8_at 90 = .ok (.ireturn, 1) := by decide +kernel
theorem dX8_batch_0 : decode cX8_batch 0 = .ok (.iload_n 1, 1) := by decide +kernel
theorem dX8_batch_1 : decode cX8_batch 1 = .ok (.iconst 0, 1) := by decide +kernel
theorem dX8_batch_2 : decode cX8_batch 2 = .ok (.aload_n 0, 1) := by decide +kernel
theorem dX8_batch_3 : decode cX8_batch 3 = .ok (.getfield 29, 3) := by decide +kernel
theorem dX8_batch_6 : decode cX8_batch 6 = .ok (.iconst 1, 1) := by decide +kernel
theorem dX8_batch_7 : decode cX8_batch 7 = .ok (.isub, 1) := by decide +kernel
theorem dX8_batch_8 : decode cX8_batch 8 = .ok (.invokestatic 104, 3) := by decide +kernel
theorem dX8_batch_11 : decode cX8_batch 11 = .ok (.ifCond .ne 5, 3) := by decide +kernel
theorem dX8_batch_14 : decode cX8_batch 14 = .ok (.iconst (-1), 1) := by decide +kernel
theorem dX8_batch_15 : decode cX8_batch 15 = .ok (.ireturn, 1) := by decide +kernel
theorem dX8_batch_16 : decode cX8_batch 16 = .ok (.iconst 0, 1) := by decide +kernel
theorem dX8_batch_17 : decode cX8_batch 17 = .ok (.istore_n 3, 1) := by decide +kernel
theorem dX8_batch_18 : decode cX8_batch 18 = .ok (.iconst (-1), 1) := by decide +kernel
theorem dX8_batch_19 : decode cX8_batch 19 = .ok (.istore 4, 2) := by decide +kernel
theorem dX8_batch_21 : decode cX8_batch 21 = .ok (.iconst (-1), 1) := by decide +kernel
theorem dX8_batch_22 : decode cX8_batch 22 = .ok (.istore 5, 2) := by decide +kernel
theorem dX8_batch_24 : decode cX8_batch 24 = .ok (.iconst 0, 1) := by decide +kernel
theorem dX8_batch_25 : decode cX8_batch 25 = .ok (.istore 6, 2) := by decide +kernel
theorem dX8_batch_27 : decode cX8_batch 27 = .ok (.iload 6, 2) := by decide +kernel
theorem dX8_batch_29 : decode cX8_batch 29 = .ok (.aload_n 0, 1) := by decide +kernel
theorem dX8_batch_30 : decode cX8_batch 30 = .ok (.getfield 13, 3) := by decide +kernel
theorem dX8_batch_33 : decode cX8_batch 33 = .ok (.if_icmp .ge 45, 3) := by decide +kernel
theorem dX8_batch_36 : decode cX8_batch 36 = .ok (.aload_n 0, 1) := by decide +kernel
theorem dX8_batch_37 : decode cX8_batch 37 = .ok (.getfield 16, 3) := by decide +kernel
theorem dX8_batch_40 : decode cX8_batch 40 = .ok (.iload 6, 2) := by decide +kernel
theorem dX8_batch_42 : decode cX8_batch 42 = .ok (.iaload, 1) := by decide +kernel
theorem dX8_batch_43 : decode cX8_batch 43 = .ok (.iload_n 1, 1) := by decide +kernel
theorem dX8_batch_44 : decode cX8_batch 44 = .ok (.if_icmp .eq 6, 3) := by decide +kernel
theorem dX8_batch_47 : decode cX8_batch 47 = .ok (.goto 25, 3) := by decide +kernel
theorem dX8_batch_50 : decode cX8_batch 50 = .ok (.iinc 3 1, 3) := by decide +kernel
theorem dX8_batch_53 : decode cX8_batch 53 = .ok (.iload 6, 2) := by decide +kernel
theorem dX8_batch_55 : decode cX8_batch 55 = .ok (.istore 5, 2) := by decide +kernel
theorem dX8_batch_57 : decode cX8_batch 57 = .ok (.iload 4, 2) := by decide +kernel
theorem dX8_batch_59 : decode cX8_batch 59 = .ok (.iconst (-1), 1) := by decide +kernel
theorem dX8_batch_60 : decode cX8_batch 60 = .ok (.if_icmp .ne 8, 3) := by decide +kernel
theorem dX8_batch_63 : decode cX8_batch 63 = .ok (.iload 6, 2) := by decide +kernel
theorem dX8_batch_65 : decode cX8_batch 65 = .ok (.goto 5, 3) := by decide +kernel
theorem dX8_batch_68 : decode cX8_batch 68 = .ok (.iload 4, 2) := by decide +kernel
theorem dX8_batch_70 : decode cX8_batch 70 = .ok (.istore 4, 2) := by decide +kernel
theorem dX8_batch_72 : decode cX8_batch 72 = .ok (.iinc 6 1, 3) := by decide +kernel
theorem dX8_batch_75 : decode cX8_batch 75 = .ok (.goto (-48), 3) := by decide +kernel
theorem dX8_batch_78 : decode cX8_batch 78 = .ok (.iload_n 2, 1) := by decide +kernel
theorem dX8_batch_79 : decode cX8_batch 79 = .ok (.tableswitch 66 0 5 #[37, 44, 46, 49, 52, 59], 37) := by decide +kernel
theorem dX8_batch_116 : decode cX8_batch 116 = .ok (.aload_n 0, 1) := by decide +kernel
theorem dX8_batch_117 : decode cX8_batch 117 = .ok (.getfield 32, 3) := by decide +kernel
theorem dX8_batch_120 : decode cX8_batch 120 = .ok (.iload_n 1, 1) := by decide +kernel
theorem dX8_batch_121 : decode cX8_batch 121 = .ok (.iaload, 1) := by decide +kernel
theorem dX8_batch_122 : decode cX8_batch 122 = .ok (.ireturn, 1) := by decide +kernel
theorem dX8_batch_123 : decode cX8_batch 123 = .ok (.iload_n 3, 1) := by decide +kernel
theorem dX8_batch_124 : decode cX8_batch 124 = .ok (.ireturn, 1) := by decide +kernel
theorem dX8_batch_125 : decode cX8_batch 125 = .ok (.iload 4, 2) := by decide +kernel
theorem dX8_batch_127 : decode cX8_batch 127 = .ok (.ireturn, 1) := by decide +kernel
theorem dX8_batch_128 : decode cX8_batch 128 = .ok (.iload 5, 2) := by decide +kernel
theorem dX8_batch_130 : decode cX8_batch 130 = .ok (.ireturn, 1) := by decide +kernel
theorem dX8_batch_131 : decode cX8_batch 131 = .ok (.aload_n 0, 1) := by decide +kernel
theorem dX8_batch_132 : decode cX8_batch 132 = .ok (.getfield 38, 3) := by decide +kernel
theorem dX8_batch_135 : decode cX8_batch 135 = .ok (.iload_n 1, 1) := by decide +kernel
theorem dX8_batch_136 : decode cX8_batch 136 = .ok (.iaload, 1) := by decide +kernel
theorem dX8_batch_137 : decode cX8_batch 137 = .ok (.ireturn, 1) := by decide +kernel
theorem dX8_batch_138 : decode cX8_batch 138 = .ok (.aload_n 0, 1) := by decide +kernel
theorem dX8_batch_139 : decode cX8_batch 139 = .ok (.getfield 35, 3) := by decide +kernel
theorem dX8_batch_142 : decode cX8_batch 142 = .ok (.iload_n 1, 1) := by decide +kernel
theorem dX8_batch_143 : decode cX8_batch 143 = .ok (.iaload, 1) := by decide +kernel
theorem dX8_batch_144 : decode cX8_batch 144 = .ok (.ireturn, 1) := by decide +kernel
theorem dX8_batch_145 : decode cX8_batch 145 = .ok (.iconst (-1), 1) := by decide +kernel
theorem dX8_batch_146 : decode cX8_batch 146 = .ok (.ireturn, 1) := by decide +kernel
theorem dX8_tankOf_0 : decode cX8_tankOf 0 = .ok (.aload_n 0, 1) := by decide +kernel
theorem dX8_tankOf_1 : decode cX8_tankOf 1 = .ok (.iload_n 1, 1) := by decide +kernel
theorem dX8_tankOf_2 : decode cX8_tankOf 2 = .ok (.iload_n 2, 1) := by decide +kernel
theorem dX8_tankOf_3 : decode cX8_tankOf 3 = .ok (.invokevirtual 130, 3) := by decide +kernel
theorem dX8_tankOf_6 : decode cX8_tankOf 6 = .ok (.ifCond .ne 5, 3) := by decide +kernel
theorem dX8_tankOf_9 : decode cX8_tankOf 9 = .ok (.iconst (-1), 1) := by decide +kernel
theorem dX8_tankOf_10 : decode cX8_tankOf 10 = .ok (.ireturn, 1) := by decide +kernel
theorem dX8_tankOf_11 : decode cX8_tankOf 11 = .ok (.bipush 8, 2) := by decide +kernel
theorem dX8_tankOf_13 : decode cX8_tankOf 13 = .ok (.iload_n 1, 1) := by decide +kernel
theorem dX8_tankOf_14 : decode cX8_tankOf 14 = .ok (.imul, 1) := by decide +kernel
theorem dX8_tankOf_15 : decode cX8_tankOf 15 = .ok (.iload_n 2, 1) := by decide +kernel
theorem dX8_tankOf_16 : decode cX8_tankOf 16 = .ok (.iadd, 1) := by decide +kernel
theorem dX8_tankOf_17 : decode cX8_tankOf 17 = .ok (.istore 4, 2) := by decide +kernel
theorem dX8_tankOf_19 : decode cX8_tankOf 19 = .ok (.iload_n 3, 1) := by decide +kernel
theorem dX8_tankOf_20 : decode cX8_tankOf 20 = .ok (.tableswitch 76 0 4 #[36, 44, 52, 60, 68], 36) := by decide +kernel
theorem dX8_tankOf_56 : decode cX8_tankOf 56 = .ok (.aload_n 0, 1) := by decide +kernel
theorem dX8_tankOf_57 : decode cX8_tankOf 57 = .ok (.getfield 60, 3) := by decide +kernel
theorem dX8_tankOf_60 : decode cX8_tankOf 60 = .ok (.iload 4, 2) := by decide +kernel
theorem dX8_tankOf_62 : decode cX8_tankOf 62 = .ok (.iaload, 1) := by decide +kernel
theorem dX8_tankOf_63 : decode cX8_tankOf 63 = .ok (.ireturn, 1) := by decide +kernel
theorem dX8_tankOf_64 : decode cX8_tankOf 64 = .ok (.aload_n 0, 1) := by decide +kernel
theorem dX8_tankOf_65 : decode cX8_tankOf 65 = .ok (.getfield 63, 3) := by decide +kernel
theorem dX8_tankOf_68 : decode cX8_tankOf 68 = .ok (.iload 4, 2) := by decide +kernel
theorem dX8_tankOf_70 : decode cX8_tankOf 70 = .ok (.iaload, 1) := by decide +kernel
theorem dX8_tankOf_71 : decode cX8_tankOf 71 = .ok (.ireturn, 1) := by decide +kernel
theorem dX8_tankOf_72 : decode cX8_tankOf 72 = .ok (.aload_n 0, 1) := by decide +kernel
theorem dX8_tankOf_73 : decode cX8_tankOf 73 = .ok (.getfield 54, 3) := by decide +kernel
theorem dX8_tankOf_76 : decode cX8_tankOf 76 = .ok (.iload 4, 2) := by decide +kernel
theorem dX8_tankOf_78 : decode cX8_tankOf 78 = .ok (.iaload, 1) := by decide +kernel
theorem dX8_tankOf_79 : decode cX8_tankOf 79 = .ok (.ireturn, 1) := by decide +kernel
theorem dX8_tankOf_80 : decode cX8_tankOf 80 = .ok (.aload_n 0, 1) := by decide +kernel
theorem dX8_tankOf_81 : decode cX8_tankOf 81 = .ok (.getfield 57, 3) := by decide +kernel
theorem dX8_tankOf_84 : decode cX8_tankOf 84 = .ok (.iload 4, 2) := by decide +kernel
theorem dX8_tankOf_86 : decode cX8_tankOf 86 = .ok (.iaload, 1) := by decide +kernel
theorem dX8_tankOf_87 : decode cX8_tankOf 87 = .ok (.ireturn, 1) := by decide +kernel
theorem dX8_tankOf_88 : decode cX8_tankOf 88 = .ok (.aload_n 0, 1) := by decide +kernel
theorem dX8_tankOf_89 : decode cX8_tankOf 89 = .ok (.getfield 66, 3) := by decide +kernel
theorem dX8_tankOf_92 : decode cX8_tankOf 92 = .ok (.iload 4, 2) := by decide +kernel
theorem dX8_tankOf_94 : decode cX8_tankOf 94 = .ok (.iaload, 1) := by decide +kernel
theorem dX8_tankOf_95 : decode cX8_tankOf 95 = .ok (.ireturn, 1) := by decide +kernel
theorem dX8_tankOf_96 : decode cX8_tankOf 96 = .ok (.iconst (-1), 1) := by decide +kernel
theorem dX8_tankOf_97 : decode cX8_tankOf 97 = .ok (.ireturn, 1) := by decide +kernel
theorem dX8_about_0 : decode cX8_about 0 = .ok (.aload_n 0, 1) := by decide +kernel
theorem dX8_about_1 : decode cX8_about 1 = .ok (.iload_n 1, 1) := by decide +kernel
theorem dX8_about_2 : decode cX8_about 2 = .ok (.invokevirtual 123, 3) := by decide +kernel
theorem dX8_about_5 : decode cX8_about 5 = .ok (.ifCond .ne 5, 3) := by decide +kernel
theorem dX8_about_8 : decode cX8_about 8 = .ok (.iconst (-1), 1) := by decide +kernel
theorem dX8_about_9 : decode cX8_about 9 = .ok (.ireturn, 1) := by decide +kernel
theorem dX8_about_10 : decode cX8_about 10 = .ok (.iload_n 2, 1) := by decide +kernel
theorem dX8_about_11 : decode cX8_about 11 = .ok (.ifCond .ne 12, 3) := by decide +kernel
theorem dX8_about_14 : decode cX8_about 14 = .ok (.aload_n 0, 1) := by decide +kernel
theorem dX8_about_15 : decode cX8_about 15 = .ok (.getfield 41, 3) := by decide +kernel
theorem dX8_about_18 : decode cX8_about 18 = .ok (.iload_n 1, 1) := by decide +kernel
theorem dX8_about_19 : decode cX8_about 19 = .ok (.iaload, 1) := by decide +kernel
theorem dX8_about_20 : decode cX8_about 20 = .ok (.goto 32, 3) := by decide +kernel
theorem dX8_about_23 : decode cX8_about 23 = .ok (.iload_n 2, 1) := by decide +kernel
theorem dX8_about_24 : decode cX8_about 24 = .ok (.iconst 1, 1) := by decide +kernel
theorem dX8_about_25 : decode cX8_about 25 = .ok (.if_icmp .ne 12, 3) := by decide +kernel
theorem dX8_about_28 : decode cX8_about 28 = .ok (.aload_n 0, 1) := by decide +kernel
theorem dX8_about_29 : decode cX8_about 29 = .ok (.getfield 44, 3) := by decide +kernel
theorem dX8_about_32 : decode cX8_about 32 = .ok (.iload_n 1, 1) := by decide +kernel
theorem dX8_about_33 : decode cX8_about 33 = .ok (.iaload, 1) := by decide +kernel
theorem dX8_about_34 : decode cX8_about 34 = .ok (.goto 18, 3) := by decide +kernel
theorem dX8_about_37 : decode cX8_about 37 = .ok (.iload_n 2, 1) := by decide +kernel
theorem dX8_about_38 : decode cX8_about 38 = .ok (.iconst 2, 1) := by decide +kernel
theorem dX8_about_39 : decode cX8_about 39 = .ok (.if_icmp .ne 12, 3) := by decide +kernel
theorem dX8_about_42 : decode cX8_about 42 = .ok (.aload_n 0, 1) := by decide +kernel
theorem dX8_about_43 : decode cX8_about 43 = .ok (.getfield 47, 3) := by decide +kernel
theorem dX8_about_46 : decode cX8_about 46 = .ok (.iload_n 1, 1) := by decide +kernel
theorem dX8_about_47 : decode cX8_about 47 = .ok (.iaload, 1) := by decide +kernel
theorem dX8_about_48 : decode cX8_about 48 = .ok (.goto 4, 3) := by decide +kernel
theorem dX8_about_51 : decode cX8_about 51 = .ok (.iconst (-1), 1) := by decide +kernel
theorem dX8_about_52 : decode cX8_about 52 = .ok (.ireturn, 1) := by decide +kernel
theorem dX8_late_0 : decode cX8_late 0 = .ok (.aload_n 0, 1) := by decide +kernel
theorem dX8_late_1 : decode cX8_late 1 = .ok (.getfield 93, 3) := by decide +kernel
theorem dX8_late_4 : decode cX8_late 4 = .ok (.iload_n 1, 1) := by decide +kernel
theorem dX8_late_5 : decode cX8_late 5 = .ok (.iaload, 1) := by decide +kernel
theorem dX8_late_6 : decode cX8_late 6 = .ok (.iconst (-1), 1) := by decide +kernel
theorem dX8_late_7 : decode cX8_late 7 = .ok (.if_icmp .ne 10, 3) := by decide +kernel
theorem dX8_late_10 : decode cX8_late 10 = .ok (.aload_n 0, 1) := by decide +kernel
theorem dX8_late_11 : decode cX8_late 11 = .ok (.getfield 114, 3) := by decide +kernel
theorem dX8_late_14 : decode cX8_late 14 = .ok (.goto 9, 3) := by decide +kernel
theorem dX8_late_17 : decode cX8_late 17 = .ok (.aload_n 0, 1) := by decide +kernel
theorem dX8_late_18 : decode cX8_late 18 = .ok (.getfield 93, 3) := by decide +kernel
theorem dX8_late_21 : decode cX8_late 21 = .ok (.iload_n 1, 1) := by decide +kernel
theorem dX8_late_22 : decode cX8_late 22 = .ok (.iaload, 1) := by decide +kernel
theorem dX8_late_23 : decode cX8_late 23 = .ok (.aload_n 0, 1) := by decide +kernel
theorem dX8_late_24 : decode cX8_late 24 = .ok (.getfield 87, 3) := by decide +kernel
theorem dX8_late_27 : decode cX8_late 27 = .ok (.iload_n 1, 1) := by decide +kernel
theorem dX8_late_28 : decode cX8_late 28 = .ok (.iaload, 1) := by decide +kernel
theorem dX8_late_29 : decode cX8_late 29 = .ok (.isub, 1) := by decide +kernel
theorem dX8_late_30 : decode cX8_late 30 = .ok (.istore_n 2, 1) := by decide +kernel
theorem dX8_late_31 : decode cX8_late 31 = .ok (.iload_n 2, 1) := by decide +kernel
theorem dX8_late_32 : decode cX8_late 32 = .ok (.ifCond .le 7, 3) := by decide +kernel
theorem dX8_late_35 : decode cX8_late 35 = .ok (.iload_n 2, 1) := by decide +kernel
theorem dX8_late_36 : decode cX8_late 36 = .ok (.goto 4, 3) := by decide +kernel
theorem dX8_late_39 : decode cX8_late 39 = .ok (.iconst 0, 1) := by decide +kernel
theorem dX8_late_40 : decode cX8_late 40 = .ok (.ireturn, 1) := by decide +kernel
theorem dX8_wished_0 : decode cX8_wished 0 = .ok (.iload_n 1, 1) := by decide +kernel
theorem dX8_wished_1 : decode cX8_wished 1 = .ok (.iconst 0, 1) := by decide +kernel
theorem dX8_wished_2 : decode cX8_wished 2 = .ok (.aload_n 0, 1) := by decide +kernel
theorem dX8_wished_3 : decode cX8_wished 3 = .ok (.getfield 111, 3) := by decide +kernel
theorem dX8_wished_6 : decode cX8_wished 6 = .ok (.iconst 1, 1) := by decide +kernel
theorem dX8_wished_7 : decode cX8_wished 7 = .ok (.isub, 1) := by decide +kernel
theorem dX8_wished_8 : decode cX8_wished 8 = .ok (.invokestatic 104, 3) := by decide +kernel
theorem dX8_wished_11 : decode cX8_wished 11 = .ok (.ifCond .ne 5, 3) := by decide +kernel
theorem dX8_wished_14 : decode cX8_wished 14 = .ok (.iconst (-1), 1) := by decide +kernel
theorem dX8_wished_15 : decode cX8_wished 15 = .ok (.ireturn, 1) := by decide +kernel
theorem dX8_wished_16 : decode cX8_wished 16 = .ok (.aload_n 0, 1) := by decide +kernel
theorem dX8_wished_17 : decode cX8_wished 17 = .ok (.getfield 84, 3) := by decide +kernel
theorem dX8_wished_20 : decode cX8_wished 20 = .ok (.iload_n 1, 1) := by decide +kernel
theorem dX8_wished_21 : decode cX8_wished 21 = .ok (.iaload, 1) := by decide +kernel
theorem dX8_wished_22 : decode cX8_wished 22 = .ok (.aload_n 0, 1) := by decide +kernel
theorem dX8_wished_23 : decode cX8_wished 23 = .ok (.getfield 66, 3) := by decide +kernel
theorem dX8_wished_26 : decode cX8_wished 26 = .ok (.aload_n 0, 1) := by decide +kernel
theorem dX8_wished_27 : decode cX8_wished 27 = .ok (.getfield 81, 3) := by decide +kernel
theorem dX8_wished_30 : decode cX8_wished 30 = .ok (.iload_n 1, 1) := by decide +kernel
theorem dX8_wished_31 : decode cX8_wished 31 = .ok (.iaload, 1) := by decide +kernel
theorem dX8_wished_32 : decode cX8_wished 32 = .ok (.iaload, 1) := by decide +kernel
theorem dX8_wished_33 : decode cX8_wished 33 = .ok (.isub, 1) := by decide +kernel
theorem dX8_wished_34 : decode cX8_wished 34 = .ok (.aload_n 0, 1) := by decide +kernel
theorem dX8_wished_35 : decode cX8_wished 35 = .ok (.getfield 90, 3) := by decide +kernel
theorem dX8_wished_38 : decode cX8_wished 38 = .ok (.iload_n 1, 1) := by decide +kernel
theorem dX8_wished_39 : decode cX8_wished 39 = .ok (.iaload, 1) := by decide +kernel
theorem dX8_wished_40 : decode cX8_wished 40 = .ok (.iadd, 1) := by decide +kernel
theorem dX8_wished_41 : decode cX8_wished 41 = .ok (.istore_n 3, 1) := by decide +kernel
theorem dX8_wished_42 : decode cX8_wished 42 = .ok (.iload_n 2, 1) := by decide +kernel
theorem dX8_wished_43 : decode cX8_wished 43 = .ok (.ifCond .ne 12, 3) := by decide +kernel
theorem dX8_wished_46 : decode cX8_wished 46 = .ok (.aload_n 0, 1) := by decide +kernel
theorem dX8_wished_47 : decode cX8_wished 47 = .ok (.getfield 93, 3) := by decide +kernel
theorem dX8_wished_50 : decode cX8_wished 50 = .ok (.iload_n 1, 1) := by decide +kernel
theorem dX8_wished_51 : decode cX8_wished 51 = .ok (.iaload, 1) := by decide +kernel
theorem dX8_wished_52 : decode cX8_wished 52 = .ok (.goto 34, 3) := by decide +kernel
theorem dX8_wished_55 : decode cX8_wished 55 = .ok (.iload_n 2, 1) := by decide +kernel
theorem dX8_wished_56 : decode cX8_wished 56 = .ok (.iconst 1, 1) := by decide +kernel
theorem dX8_wished_57 : decode cX8_wished 57 = .ok (.if_icmp .ne 11, 3) := by decide +kernel
theorem dX8_wished_60 : decode cX8_wished 60 = .ok (.aload_n 0, 1) := by decide +kernel
theorem dX8_wished_61 : decode cX8_wished 61 = .ok (.iload_n 1, 1) := by decide +kernel
theorem dX8_wished_62 : decode cX8_wished 62 = .ok (.invokevirtual 189, 3) := by decide +kernel
theorem dX8_wished_65 : decode cX8_wished 65 = .ok (.goto 21, 3) := by decide +kernel
theorem dX8_wished_68 : decode cX8_wished 68 = .ok (.iload_n 2, 1) := by decide +kernel
theorem dX8_wished_69 : decode cX8_wished 69 = .ok (.iconst 2, 1) := by decide +kernel
theorem dX8_wished_70 : decode cX8_wished 70 = .ok (.if_icmp .ne 15, 3) := by decide +kernel
theorem dX8_wished_73 : decode cX8_wished 73 = .ok (.iload_n 3, 1) := by decide +kernel
theorem dX8_wished_74 : decode cX8_wished 74 = .ok (.ifCond .le 7, 3) := by decide +kernel
theorem dX8_wished_77 : decode cX8_wished 77 = .ok (.iload_n 3, 1) := by decide +kernel
theorem dX8_wished_78 : decode cX8_wished 78 = .ok (.goto 8, 3) := by decide +kernel
theorem dX8_wished_81 : decode cX8_wished 81 = .ok (.iconst 0, 1) := by decide +kernel
theorem dX8_wished_82 : decode cX8_wished 82 = .ok (.goto 4, 3) := by decide +kernel
theorem dX8_wished_85 : decode cX8_wished 85 = .ok (.iconst (-1), 1) := by decide +kernel
theorem dX8_wished_86 : decode cX8_wished 86 = .ok (.ireturn, 1) := by decide +kernel
theorem dX8_count_0 : decode cX8_count 0 = .ok (.iconst 0, 1) := by decide +kernel
theorem dX8_count_1 : decode cX8_count 1 = .ok (.istore_n 2, 1) := by decide +kernel
theorem dX8_count_2 : decode cX8_count 2 = .ok (.iload_n 1, 1) := by decide +kernel
theorem dX8_count_3 : decode cX8_count 3 = .ok (.tableswitch 166 0 8 #[49, 54, 59, 64, 98, 125, 130, 135, 161], 49) := by decide +kernel
theorem dX8_count_52 : decode cX8_count 52 = .ok (.aload_n 0, 1) := by decide +kernel
theorem dX8_count_53 : decode cX8_count 53 = .ok (.getfield 114, 3) := by decide +kernel
theorem dX8_count_56 : decode cX8_count 56 = .ok (.ireturn, 1) := by decide +kernel
theorem dX8_count_57 : decode cX8_count 57 = .ok (.aload_n 0, 1) := by decide +kernel
theorem dX8_count_58 : decode cX8_count 58 = .ok (.getfield 117, 3) := by decide +kernel
theorem dX8_count_61 : decode cX8_count 61 = .ok (.ireturn, 1) := by decide +kernel
theorem dX8_count_62 : decode cX8_count 62 = .ok (.aload_n 0, 1) := by decide +kernel
theorem dX8_count_63 : decode cX8_count 63 = .ok (.getfield 29, 3) := by decide +kernel
theorem dX8_count_66 : decode cX8_count 66 = .ok (.ireturn, 1) := by decide +kernel
theorem dX8_count_67 : decode cX8_count 67 = .ok (.iconst 0, 1) := by decide +kernel
theorem dX8_count_68 : decode cX8_count 68 = .ok (.istore_n 3, 1) := by decide +kernel
theorem dX8_count_69 : decode cX8_count 69 = .ok (.iload_n 3, 1) := by decide +kernel
theorem dX8_count_70 : decode cX8_count 70 = .ok (.aload_n 0, 1) := by decide +kernel
theorem dX8_count_71 : decode cX8_count 71 = .ok (.getfield 13, 3) := by decide +kernel
theorem dX8_count_74 : decode cX8_count 74 = .ok (.if_icmp .ge 25, 3) := by decide +kernel
theorem dX8_count_77 : decode cX8_count 77 = .ok (.iload_n 2, 1) := by decide +kernel
theorem dX8_count_78 : decode cX8_count 78 = .ok (.aload_n 0, 1) := by decide +kernel
theorem dX8_count_79 : decode cX8_count 79 = .ok (.iload_n 3, 1) := by decide +kernel
theorem dX8_count_80 : decode cX8_count 80 = .ok (.invokevirtual 146, 3) := by decide +kernel
theorem dX8_count_83 : decode cX8_count 83 = .ok (.ifCond .eq 7, 3) := by decide +kernel
theorem dX8_count_86 : decode cX8_count 86 = .ok (.iconst 0, 1) := by decide +kernel
theorem dX8_count_87 : decode cX8_count 87 = .ok (.goto 4, 3) := by decide +kernel
theorem dX8_count_90 : decode cX8_count 90 = .ok (.iconst 1, 1) := by decide +kernel
theorem dX8_count_91 : decode cX8_count 91 = .ok (.iadd, 1) := by decide +kernel
theorem dX8_count_92 : decode cX8_count 92 = .ok (.istore_n 2, 1) := by decide +kernel
theorem dX8_count_93 : decode cX8_count 93 = .ok (.iinc 3 1, 3) := by decide +kernel
theorem dX8_count_96 : decode cX8_count 96 = .ok (.goto (-27), 3) := by decide +kernel
theorem dX8_count_99 : decode cX8_count 99 = .ok (.iload_n 2, 1) := by decide +kernel
theorem dX8_count_100 : decode cX8_count 100 = .ok (.ireturn, 1) := by decide +kernel
theorem dX8_count_101 : decode cX8_count 101 = .ok (.iconst 0, 1) := by decide +kernel
theorem dX8_count_102 : decode cX8_count 102 = .ok (.istore_n 3, 1) := by decide +kernel
theorem dX8_count_103 : decode cX8_count 103 = .ok (.iload_n 3, 1) := by decide +kernel
theorem dX8_count_104 : decode cX8_count 104 = .ok (.aload_n 0, 1) := by decide +kernel
theorem dX8_count_105 : decode cX8_count 105 = .ok (.getfield 108, 3) := by decide +kernel
theorem dX8_count_108 : decode cX8_count 108 = .ok (.if_icmp .ge 18, 3) := by decide +kernel
theorem dX8_count_111 : decode cX8_count 111 = .ok (.iload_n 2, 1) := by decide +kernel
theorem dX8_count_112 : decode cX8_count 112 = .ok (.aload_n 0, 1) := by decide +kernel
theorem dX8_count_113 : decode cX8_count 113 = .ok (.getfield 47, 3) := by decide +kernel
theorem dX8_count_116 : decode cX8_count 116 = .ok (.iload_n 3, 1) := by decide +kernel
theorem dX8_count_117 : decode cX8_count 117 = .ok (.iaload, 1) := by decide +kernel
theorem dX8_count_118 : decode cX8_count 118 = .ok (.iadd, 1) := by decide +kernel
theorem dX8_count_119 : decode cX8_count 119 = .ok (.istore_n 2, 1) := by decide +kernel
theorem dX8_count_120 : decode cX8_count 120 = .ok (.iinc 3 1, 3) := by decide +kernel
theorem dX8_count_123 : decode cX8_count 123 = .ok (.goto (-20), 3) := by decide +kernel
theorem dX8_count_126 : decode cX8_count 126 = .ok (.iload_n 2, 1) := by decide +kernel
theorem dX8_count_127 : decode cX8_count 127 = .ok (.ireturn, 1) := by decide +kernel
theorem dX8_count_128 : decode cX8_count 128 = .ok (.aload_n 0, 1) := by decide +kernel
theorem dX8_count_129 : decode cX8_count 129 = .ok (.getfield 13, 3) := by decide +kernel
theorem dX8_count_132 : decode cX8_count 132 = .ok (.ireturn, 1) := by decide +kernel
theorem dX8_count_133 : decode cX8_count 133 = .ok (.aload_n 0, 1) := by decide +kernel
theorem dX8_count_134 : decode cX8_count 134 = .ok (.getfield 108, 3) := by decide +kernel
theorem dX8_count_137 : decode cX8_count 137 = .ok (.ireturn, 1) := by decide +kernel
theorem dX8_count_138 : decode cX8_count 138 = .ok (.iconst 0, 1) := by decide +kernel
theorem dX8_count_139 : decode cX8_count 139 = .ok (.istore_n 3, 1) := by decide +kernel
theorem dX8_count_140 : decode cX8_count 140 = .ok (.iload_n 3, 1) := by decide +kernel
theorem dX8_count_141 : decode cX8_count 141 = .ok (.aload_n 0, 1) := by decide +kernel
theorem dX8_count_142 : decode cX8_count 142 = .ok (.getfield 111, 3) := by decide +kernel
theorem dX8_count_145 : decode cX8_count 145 = .ok (.if_icmp .ge 17, 3) := by decide +kernel
theorem dX8_count_148 : decode cX8_count 148 = .ok (.iload_n 2, 1) := by decide +kernel
theorem dX8_count_149 : decode cX8_count 149 = .ok (.aload_n 0, 1) := by decide +kernel
theorem dX8_count_150 : decode cX8_count 150 = .ok (.iload_n 3, 1) := by decide +kernel
theorem dX8_count_151 : decode cX8_count 151 = .ok (.invokevirtual 189, 3) := by decide +kernel
theorem dX8_count_154 : decode cX8_count 154 = .ok (.iadd, 1) := by decide +kernel
theorem dX8_count_155 : decode cX8_count 155 = .ok (.istore_n 2, 1) := by decide +kernel
theorem dX8_count_156 : decode cX8_count 156 = .ok (.iinc 3 1, 3) := by decide +kernel
theorem dX8_count_159 : decode cX8_count 159 = .ok (.goto (-19), 3) := by decide +kernel
theorem dX8_count_162 : decode cX8_count 162 = .ok (.iload_n 2, 1) := by decide +kernel
theorem dX8_count_163 : decode cX8_count 163 = .ok (.ireturn, 1) := by decide +kernel
theorem dX8_count_164 : decode cX8_count 164 = .ok (.aload_n 0, 1) := by decide +kernel
theorem dX8_count_165 : decode cX8_count 165 = .ok (.getfield 120, 3) := by decide +kernel
theorem dX8_count_168 : decode cX8_count 168 = .ok (.ireturn, 1) := by decide +kernel
theorem dX8_count_169 : decode cX8_count 169 = .ok (.iconst (-1), 1) := by decide +kernel
theorem dX8_count_170 : decode cX8_count 170 = .ok (.ireturn, 1) := by decide +kernel
theorem dX8_borders_0 : decode cX8_borders 0 = .ok (.iconst 0, 1) := by decide +kernel
theorem dX8_borders_1 : decode cX8_borders 1 = .ok (.istore_n 1, 1) := by decide +kernel
theorem dX8_borders_2 : decode cX8_borders 2 = .ok (.iconst 0, 1) := by decide +kernel
theorem dX8_borders_3 : decode cX8_borders 3 = .ok (.istore_n 2, 1) := by decide +kernel
theorem dX8_borders_4 : decode cX8_borders 4 = .ok (.iload_n 2, 1) := by decide +kernel
theorem dX8_borders_5 : decode cX8_borders 5 = .ok (.aload_n 0, 1) := by decide +kernel
theorem dX8_borders_6 : decode cX8_borders 6 = .ok (.getfield 13, 3) := by decide +kernel
theorem dX8_borders_9 : decode cX8_borders 9 = .ok (.if_icmp .ge 26, 3) := by decide +kernel
theorem dX8_borders_12 : decode cX8_borders 12 = .ok (.iload_n 1, 1) := by decide +kernel
theorem dX8_borders_13 : decode cX8_borders 13 = .ok (.aload_n 0, 1) := by decide +kernel
theorem dX8_borders_14 : decode cX8_borders 14 = .ok (.iload_n 2, 1) := by decide +kernel
theorem dX8_borders_15 : decode cX8_borders 15 = .ok (.invokevirtual 159, 3) := by decide +kernel
theorem dX8_borders_18 : decode cX8_borders 18 = .ok (.iconst (-1), 1) := by decide +kernel
theorem dX8_borders_19 : decode cX8_borders 19 = .ok (.if_icmp .ne 7, 3) := by decide +kernel
theorem dX8_borders_22 : decode cX8_borders 22 = .ok (.iconst 0, 1) := by decide +kernel
theorem dX8_borders_23 : decode cX8_borders 23 = .ok (.goto 4, 3) := by decide +kernel
theorem dX8_borders_26 : decode cX8_borders 26 = .ok (.iconst 1, 1) := by decide +kernel
theorem dX8_borders_27 : decode cX8_borders 27 = .ok (.iadd, 1) := by decide +kernel
theorem dX8_borders_28 : decode cX8_borders 28 = .ok (.istore_n 1, 1) := by decide +kernel
theorem dX8_borders_29 : decode cX8_borders 29 = .ok (.iinc 2 1, 3) := by decide +kernel
theorem dX8_borders_32 : decode cX8_borders 32 = .ok (.goto (-28), 3) := by decide +kernel
theorem dX8_borders_35 : decode cX8_borders 35 = .ok (.iload_n 1, 1) := by decide +kernel
theorem dX8_borders_36 : decode cX8_borders 36 = .ok (.ireturn, 1) := by decide +kernel
end
section
theorem dL_law_0 : decode cL_law 0 = .ok (.new 7, 3) := by decide +kernel
theorem dL_law_3 : decode cL_law 3 = .ok (.dup, 1) := by decide +kernel
theorem dL_law_4 : decode cL_law 4 = .ok (.invokespecial 9, 3) := by decide +kernel
theorem dL_law_7 : decode cL_law 7 = .ok (.astore_n 1, 1) := by decide +kernel
theorem dL_law_8 : decode cL_law 8 = .ok (.new 10, 3) := by decide +kernel
theorem dL_law_11 : decode cL_law 11 = .ok (.dup, 1) := by decide +kernel
theorem dL_law_12 : decode cL_law 12 = .ok (.invokespecial 12, 3) := by decide +kernel
theorem dL_law_15 : decode cL_law 15 = .ok (.astore_n 2, 1) := by decide +kernel
theorem dL_law_16 : decode cL_law 16 = .ok (.iconst 0, 1) := by decide +kernel
theorem dL_law_17 : decode cL_law 17 = .ok (.istore_n 3, 1) := by decide +kernel
theorem dL_law_18 : decode cL_law 18 = .ok (.iload_n 3, 1) := by decide +kernel
theorem dL_law_19 : decode cL_law 19 = .ok (.aload_n 0, 1) := by decide +kernel
theorem dL_law_20 : decode cL_law 20 = .ok (.arraylength, 1) := by decide +kernel
theorem dL_law_21 : decode cL_law 21 = .ok (.bipush 6, 2) := by decide +kernel
theorem dL_law_23 : decode cL_law 23 = .ok (.isub, 1) := by decide +kernel
theorem dL_law_24 : decode cL_law 24 = .ok (.if_icmp .gt 773, 3) := by decide +kernel
theorem dL_law_27 : decode cL_law 27 = .ok (.aload_n 0, 1) := by decide +kernel
theorem dL_law_28 : decode cL_law 28 = .ok (.iload_n 3, 1) := by decide +kernel
theorem dL_law_29 : decode cL_law 29 = .ok (.iaload, 1) := by decide +kernel
theorem dL_law_30 : decode cL_law 30 = .ok (.bipush 31, 2) := by decide +kernel
theorem dL_law_32 : decode cL_law 32 = .ok (.iand, 1) := by decide +kernel
theorem dL_law_33 : decode cL_law 33 = .ok (.tableswitch 758 0 18 #[91, 114, 137, 200, 253, 286, 319, 352, 405, 458, 511, 524, 547, 580, 613, 656, 689, 722, 745], 91) := by decide +kernel
theorem dL_law_124 : decode cL_law 124 = .ok (.aload_n 1, 1) := by decide +kernel
theorem dL_law_125 : decode cL_law 125 = .ok (.aload_n 0, 1) := by decide +kernel
theorem dL_law_126 : decode cL_law 126 = .ok (.iload_n 3, 1) := by decide +kernel
theorem dL_law_127 : decode cL_law 127 = .ok (.iconst 1, 1) := by decide +kernel
theorem dL_law_128 : decode cL_law 128 = .ok (.iadd, 1) := by decide +kernel
theorem dL_law_129 : decode cL_law 129 = .ok (.iaload, 1) := by decide +kernel
theorem dL_law_130 : decode cL_law 130 = .ok (.invokevirtual 13, 3) := by decide +kernel
theorem dL_law_133 : decode cL_law 133 = .ok (.aload_n 2, 1) := by decide +kernel
theorem dL_law_134 : decode cL_law 134 = .ok (.aload_n 0, 1) := by decide +kernel
theorem dL_law_135 : decode cL_law 135 = .ok (.iload_n 3, 1) := by decide +kernel
theorem dL_law_136 : decode cL_law 136 = .ok (.iconst 1, 1) := by decide +kernel
theorem dL_law_137 : decode cL_law 137 = .ok (.iadd, 1) := by decide +kernel
theorem dL_law_138 : decode cL_law 138 = .ok (.iaload, 1) := by decide +kernel
theorem dL_law_139 : decode cL_law 139 = .ok (.invokevirtual 17, 3) := by decide +kernel
theorem dL_law_142 : decode cL_law 142 = .ok (.if_icmp .eq 649, 3) := by decide +kernel
theorem dL_law_145 : decode cL_law 145 = .ok (.iconst 0, 1) := by decide +kernel
theorem dL_law_146 : decode cL_law 146 = .ok (.ireturn, 1) := by decide +kernel
theorem dL_law_147 : decode cL_law 147 = .ok (.aload_n 1, 1) := by decide +kernel
theorem dL_law_148 : decode cL_law 148 = .ok (.aload_n 0, 1) := by decide +kernel
theorem dL_law_149 : decode cL_law 149 = .ok (.iload_n 3, 1) := by decide +kernel
theorem dL_law_150 : decode cL_law 150 = .ok (.iconst 1, 1) := by decide +kernel
theorem dL_law_151 : decode cL_law 151 = .ok (.iadd, 1) := by decide +kernel
theorem dL_law_152 : decode cL_law 152 = .ok (.iaload, 1) := by decide +kernel
theorem dL_law_153 : decode cL_law 153 = .ok (.invokevirtual 18, 3) := by decide +kernel
theorem dL_law_156 : decode cL_law 156 = .ok (.aload_n 2, 1) := by decide +kernel
theorem dL_law_157 : decode cL_law 157 = .ok (.aload_n 0, 1) := by decide +kernel
theorem dL_law_158 : decode cL_law 158 = .ok (.iload_n 3, 1) := by decide +kernel
theorem dL_law_159 : decode cL_law 159 = .ok (.iconst 1, 1) := by decide +kernel
theorem dL_law_160 : decode cL_law 160 = .ok (.iadd, 1) := by decide +kernel
theorem dL_law_161 : decode cL_law 161 = .ok (.iaload, 1) := by decide +kernel
theorem dL_law_162 : decode cL_law 162 = .ok (.invokevirtual 21, 3) := by decide +kernel
theorem dL_law_165 : decode cL_law 165 = .ok (.if_icmp .eq 626, 3) := by decide +kernel
theorem dL_law_168 : decode cL_law 168 = .ok (.iconst 0, 1) := by decide +kernel
theorem dL_law_169 : decode cL_law 169 = .ok (.ireturn, 1) := by decide +kernel
theorem dL_law_170 : decode cL_law 170 = .ok (.aload_n 1, 1) := by decide +kernel
theorem dL_law_171 : decode cL_law 171 = .ok (.aload_n 0, 1) := by decide +kernel
theorem dL_law_172 : decode cL_law 172 = .ok (.iload_n 3, 1) := by decide +kernel
theorem dL_law_173 : decode cL_law 173 = .ok (.iconst 1, 1) := by decide +kernel
theorem dL_law_174 : decode cL_law 174 = .ok (.iadd, 1) := by decide +kernel
theorem dL_law_175 : decode cL_law 175 = .ok (.iaload, 1) := by decide +kernel
theorem dL_law_176 : decode cL_law 176 = .ok (.aload_n 0, 1) := by decide +kernel
theorem dL_law_177 : decode cL_law 177 = .ok (.iload_n 3, 1) := by decide +kernel
theorem dL_law_178 : decode cL_law 178 = .ok (.iconst 2, 1) := by decide +kernel
theorem dL_law_179 : decode cL_law 179 = .ok (.iadd, 1) := by decide +kernel
theorem dL_law_180 : decode cL_law 180 = .ok (.iaload, 1) := by decide +kernel
theorem dL_law_181 : decode cL_law 181 = .ok (.aload_n 0, 1) := by decide +kernel
theorem dL_law_182 : decode cL_law 182 = .ok (.iload_n 3, 1) := by decide +kernel
theorem dL_law_183 : decode cL_law 183 = .ok (.iconst 3, 1) := by decide +kernel
theorem dL_law_184 : decode cL_law 184 = .ok (.iadd, 1) := by decide +kernel
theorem dL_law_185 : decode cL_law 185 = .ok (.iaload, 1) := by decide +kernel
theorem dL_law_186 : decode cL_law 186 = .ok (.aload_n 0, 1) := by decide +kernel
theorem dL_law_187 : decode cL_law 187 = .ok (.iload_n 3, 1) := by decide +kernel
theorem dL_law_188 : decode cL_law 188 = .ok (.iconst 4, 1) := by decide +kernel
theorem dL_law_189 : decode cL_law 189 = .ok (.iadd, 1) := by decide +kernel
theorem dL_law_190 : decode cL_law 190 = .ok (.iaload, 1) := by decide +kernel
theorem dL_law_191 : decode cL_law 191 = .ok (.aload_n 0, 1) := by decide +kernel
theorem dL_law_192 : decode cL_law 192 = .ok (.iload_n 3, 1) := by decide +kernel
theorem dL_law_193 : decode cL_law 193 = .ok (.iconst 5, 1) := by decide +kernel
theorem dL_law_194 : decode cL_law 194 = .ok (.iadd, 1) := by decide +kernel
theorem dL_law_195 : decode cL_law 195 = .ok (.iaload, 1) := by decide +kernel
theorem dL_law_196 : decode cL_law 196 = .ok (.invokevirtual 22, 3) := by decide +kernel
theorem dL_law_199 : decode cL_law 199 = .ok (.aload_n 2, 1) := by decide +kernel
theorem dL_law_200 : decode cL_law 200 = .ok (.aload_n 0, 1) := by decide +kernel
theorem dL_law_201 : decode cL_law 201 = .ok (.iload_n 3, 1) := by decide +kernel
theorem dL_law_202 : decode cL_law 202 = .ok (.iconst 1, 1) := by decide +kernel
theorem dL_law_203 : decode cL_law 203 = .ok (.iadd, 1) := by decide +kernel
theorem dL_law_204 : decode cL_law 204 = .ok (.iaload, 1) := by decide +kernel
theorem dL_law_205 : decode cL_law 205 = .ok (.aload_n 0, 1) := by decide +kernel
theorem dL_law_206 : decode cL_law 206 = .ok (.iload_n 3, 1) := by decide +kernel
theorem dL_law_207 : decode cL_law 207 = .ok (.iconst 2, 1) := by decide +kernel
theorem dL_law_208 : decode cL_law 208 = .ok (.iadd, 1) := by decide +kernel
theorem dL_law_209 : decode cL_law 209 = .ok (.iaload, 1) := by decide +kernel
theorem dL_law_210 : decode cL_law 210 = .ok (.aload_n 0, 1) := by decide +kernel
theorem dL_law_211 : decode cL_law 211 = .ok (.iload_n 3, 1) := by decide +kernel
theorem dL_law_212 : decode cL_law 212 = .ok (.iconst 3, 1) := by decide +kernel
theorem dL_law_213 : decode cL_law 213 = .ok (.iadd, 1) := by decide +kernel
theorem dL_law_214 : decode cL_law 214 = .ok (.iaload, 1) := by decide +kernel
theorem dL_law_215 : decode cL_law 215 = .ok (.aload_n 0, 1) := by decide +kernel
theorem dL_law_216 : decode cL_law 216 = .ok (.iload_n 3, 1) := by decide +kernel
theorem dL_law_217 : decode cL_law 217 = .ok (.iconst 4, 1) := by decide +kernel
theorem dL_law_218 : decode cL_law 218 = .ok (.iadd, 1) := by decide +kernel
theorem dL_law_219 : decode cL_law 219 = .ok (.iaload, 1) := by decide +kernel
theorem dL_law_220 : decode cL_law 220 = .ok (.aload_n 0, 1) := by decide +kernel
theorem dL_law_221 : decode cL_law 221 = .ok (.iload_n 3, 1) := by decide +kernel
theorem dL_law_222 : decode cL_law 222 = .ok (.iconst 5, 1) := by decide +kernel
theorem dL_law_223 : decode cL_law 223 = .ok (.iadd, 1) := by decide +kernel
theorem dL_law_224 : decode cL_law 224 = .ok (.iaload, 1) := by decide +kernel
theorem dL_law_225 : decode cL_law 225 = .ok (.invokevirtual 26, 3) := by decide +kernel
theorem dL_law_228 : decode cL_law 228 = .ok (.if_icmp .eq 563, 3) := by decide +kernel
theorem dL_law_231 : decode cL_law 231 = .ok (.iconst 0, 1) := by decide +kernel
theorem dL_law_232 : decode cL_law 232 = .ok (.ireturn, 1) := by decide +kernel
theorem dL_law_233 : decode cL_law 233 = .ok (.aload_n 1, 1) := by decide +kernel
theorem dL_law_234 : decode cL_law 234 = .ok (.aload_n 0, 1) := by decide +kernel
theorem dL_law_235 : decode cL_law 235 = .ok (.iload_n 3, 1) := by decide +kernel
theorem dL_law_236 : decode cL_law 236 = .ok (.iconst 1, 1) := by decide +kernel
theorem dL_law_237 : decode cL_law 237 = .ok (.iadd, 1) := by decide +kernel
theorem dL_law_238 : decode cL_law 238 = .ok (.iaload, 1) := by decide +kernel
theorem dL_law_239 : decode cL_law 239 = .ok (.aload_n 0, 1) := by decide +kernel
theorem dL_law_240 : decode cL_law 240 = .ok (.iload_n 3, 1) := by decide +kernel
theorem dL_law_241 : decode cL_law 241 = .ok (.iconst 2, 1) := by decide +kernel
theorem dL_law_242 : decode cL_law 242 = .ok (.iadd, 1) := by decide +kernel
theorem dL_law_243 : decode cL_law 243 = .ok (.iaload, 1) := by decide +kernel
theorem dL_law_244 : decode cL_law 244 = .ok (.aload_n 0, 1) := by decide +kernel
theorem dL_law_245 : decode cL_law 245 = .ok (.iload_n 3, 1) := by decide +kernel
theorem dL_law_246 : decode cL_law 246 = .ok (.iconst 3, 1) := by decide +kernel
theorem dL_law_247 : decode cL_law 247 = .ok (.iadd, 1) := by decide +kernel
theorem dL_law_248 : decode cL_law 248 = .ok (.iaload, 1) := by decide +kernel
theorem dL_law_249 : decode cL_law 249 = .ok (.aload_n 0, 1) := by decide +kernel
theorem dL_law_250 : decode cL_law 250 = .ok (.iload_n 3, 1) := by decide +kernel
theorem dL_law_251 : decode cL_law 251 = .ok (.iconst 4, 1) := by decide +kernel
theorem dL_law_252 : decode cL_law 252 = .ok (.iadd, 1) := by decide +kernel
theorem dL_law_253 : decode cL_law 253 = .ok (.iaload, 1) := by decide +kernel
theorem dL_law_254 : decode cL_law 254 = .ok (.invokevirtual 27, 3) := by decide +kernel
theorem dL_law_257 : decode cL_law 257 = .ok (.aload_n 2, 1) := by decide +kernel
theorem dL_law_258 : decode cL_law 258 = .ok (.aload_n 0, 1) := by decide +kernel
theorem dL_law_259 : decode cL_law 259 = .ok (.iload_n 3, 1) := by decide +kernel
theorem dL_law_260 : decode cL_law 260 = .ok (.iconst 1, 1) := by decide +kernel
theorem dL_law_261 : decode cL_law 261 = .ok (.iadd, 1) := by decide +kernel
theorem dL_law_262 : decode cL_law 262 = .ok (.iaload, 1) := by decide +kernel
theorem dL_law_263 : decode cL_law 263 = .ok (.aload_n 0, 1) := by decide +kernel
theorem dL_law_264 : decode cL_law 264 = .ok (.iload_n 3, 1) := by decide +kernel
theorem dL_law_265 : decode cL_law 265 = .ok (.iconst 2, 1) := by decide +kernel
theorem dL_law_266 : decode cL_law 266 = .ok (.iadd, 1) := by decide +kernel
theorem dL_law_267 : decode cL_law 267 = .ok (.iaload, 1) := by decide +kernel
theorem dL_law_268 : decode cL_law 268 = .ok (.aload_n 0, 1) := by decide +kernel
theorem dL_law_269 : decode cL_law 269 = .ok (.iload_n 3, 1) := by decide +kernel
theorem dL_law_270 : decode cL_law 270 = .ok (.iconst 3, 1) := by decide +kernel
theorem dL_law_271 : decode cL_law 271 = .ok (.iadd, 1) := by decide +kernel
theorem dL_law_272 : decode cL_law 272 = .ok (.iaload, 1) := by decide +kernel
theorem dL_law_273 : decode cL_law 273 = .ok (.aload_n 0, 1) := by decide +kernel
theorem dL_law_274 : decode cL_law 274 = .ok (.iload_n 3, 1) := by decide +kernel
theorem dL_law_275 : decode cL_law 275 = .ok (.iconst 4, 1) := by decide +kernel
theorem dL_law_276 : decode cL_law 276 = .ok (.iadd, 1) := by decide +kernel
theorem dL_law_277 : decode cL_law 277 = .ok (.iaload, 1) := by decide +kernel
theorem dL_law_278 : decode cL_law 278 = .ok (.invokevirtual 31, 3) := by decide +kernel
theorem dL_law_281 : decode cL_law 281 = .ok (.if_icmp .eq 510, 3) := by decide +kernel
theorem dL_law_284 : decode cL_law 284 = .ok (.iconst 0, 1) := by decide +kernel
theorem dL_law_285 : decode cL_law 285 = .ok (.ireturn, 1) := by decide +kernel
theorem dL_law_286 : decode cL_law 286 = .ok (.aload_n 1, 1) := by decide +kernel
theorem dL_law_287 : decode cL_law 287 = .ok (.aload_n 0, 1) := by decide +kernel
theorem dL_law_288 : decode cL_law 288 = .ok (.iload_n 3, 1) := by decide +kernel
theorem dL_law_289 : decode cL_law 289 = .ok (.iconst 1, 1) := by decide +kernel
theorem dL_law_290 : decode cL_law 290 = .ok (.iadd, 1) := by decide +kernel
theorem dL_law_291 : decode cL_law 291 = .ok (.iaload, 1) := by decide +kernel
theorem dL_law_292 : decode cL_law 292 = .ok (.aload_n 0, 1) := by decide +kernel
theorem dL_law_293 : decode cL_law 293 = .ok (.iload_n 3, 1) := by decide +kernel
theorem dL_law_294 : decode cL_law 294 = .ok (.iconst 2, 1) := by decide +kernel
theorem dL_law_295 : decode cL_law 295 = .ok (.iadd, 1) := by decide +kernel
theorem dL_law_296 : decode cL_law 296 = .ok (.iaload, 1) := by decide +kernel
theorem dL_law_297 : decode cL_law 297 = .ok (.invokevirtual 32, 3) := by decide +kernel
theorem dL_law_300 : decode cL_law 300 = .ok (.aload_n 2, 1) := by decide +kernel
theorem dL_law_301 : decode cL_law 301 = .ok (.aload_n 0, 1) := by decide +kernel
theorem dL_law_302 : decode cL_law 302 = .ok (.iload_n 3, 1) := by decide +kernel
theorem dL_law_303 : decode cL_law 303 = .ok (.iconst 1, 1) := by decide +kernel
theorem dL_law_304 : decode cL_law 304 = .ok (.iadd, 1) := by decide +kernel
theorem dL_law_305 : decode cL_law 305 = .ok (.iaload, 1) := by decide +kernel
theorem dL_law_306 : decode cL_law 306 = .ok (.aload_n 0, 1) := by decide +kernel
theorem dL_law_307 : decode cL_law 307 = .ok (.iload_n 3, 1) := by decide +kernel
theorem dL_law_308 : decode cL_law 308 = .ok (.iconst 2, 1) := by decide +kernel
theorem dL_law_309 : decode cL_law 309 = .ok (.iadd, 1) := by decide +kernel
theorem dL_law_310 : decode cL_law 310 = .ok (.iaload, 1) := by decide +kernel
theorem dL_law_311 : decode cL_law 311 = .ok (.invokevirtual 36, 3) := by decide +kernel
theorem dL_law_314 : decode cL_law 314 = .ok (.if_icmp .eq 477, 3) := by decide +kernel
theorem dL_law_317 : decode cL_law 317 = .ok (.iconst 0, 1) := by decide +kernel
theorem dL_law_318 : decode cL_law 318 = .ok (.ireturn, 1) := by decide +kernel
theorem dL_law_319 : decode cL_law 319 = .ok (.aload_n 1, 1) := by decide +kernel
theorem dL_law_320 : decode cL_law 320 = .ok (.aload_n 0, 1) := by decide +kernel
theorem dL_law_321 : decode cL_law 321 = .ok (.iload_n 3, 1) := by decide +kernel
theorem dL_law_322 : decode cL_law 322 = .ok (.iconst 1, 1) := by decide +kernel
theorem dL_law_323 : decode cL_law 323 = .ok (.iadd, 1) := by decide +kernel
theorem dL_law_324 : decode cL_law 324 = .ok (.iaload, 1) := by decide +kernel
theorem dL_law_325 : decode cL_law 325 = .ok (.aload_n 0, 1) := by decide +kernel
theorem dL_law_326 : decode cL_law 326 = .ok (.iload_n 3, 1) := by decide +kernel
theorem dL_law_327 : decode cL_law 327 = .ok (.iconst 2, 1) := by decide +kernel
theorem dL_law_328 : decode cL_law 328 = .ok (.iadd, 1) := by decide +kernel
theorem dL_law_329 : decode cL_law 329 = .ok (.iaload, 1) := by decide +kernel
theorem dL_law_330 : decode cL_law 330 = .ok (.invokevirtual 37, 3) := by decide +kernel
theorem dL_law_333 : decode cL_law 333 = .ok (.aload_n 2, 1) := by decide +kernel
theorem dL_law_334 : decode cL_law 334 = .ok (.aload_n 0, 1) := by decide +kernel
theorem dL_law_335 : decode cL_law 335 = .ok (.iload_n 3, 1) := by decide +kernel
theorem dL_law_336 : decode cL_law 336 = .ok (.iconst 1, 1) := by decide +kernel
theorem dL_law_337 : decode cL_law 337 = .ok (.iadd, 1) := by decide +kernel
theorem dL_law_338 : decode cL_law 338 = .ok (.iaload, 1) := by decide +kernel
theorem dL_law_339 : decode cL_law 339 = .ok (.aload_n 0, 1) := by decide +kernel
theorem dL_law_340 : decode cL_law 340 = .ok (.iload_n 3, 1) := by decide +kernel
theorem dL_law_341 : decode cL_law 341 = .ok (.iconst 2, 1) := by decide +kernel
theorem dL_law_342 : decode cL_law 342 = .ok (.iadd, 1) := by decide +kernel
theorem dL_law_343 : decode cL_law 343 = .ok (.iaload, 1) := by decide +kernel
theorem dL_law_344 : decode cL_law 344 = .ok (.invokevirtual 40, 3) := by decide +kernel
theorem dL_law_347 : decode cL_law 347 = .ok (.if_icmp .eq 444, 3) := by decide +kernel
theorem dL_law_350 : decode cL_law 350 = .ok (.iconst 0, 1) := by decide +kernel
theorem dL_law_351 : decode cL_law 351 = .ok (.ireturn, 1) := by decide +kernel
theorem dL_law_352 : decode cL_law 352 = .ok (.aload_n 1, 1) := by decide +kernel
theorem dL_law_353 : decode cL_law 353 = .ok (.aload_n 0, 1) := by decide +kernel
theorem dL_law_354 : decode cL_law 354 = .ok (.iload_n 3, 1) := by decide +kernel
theorem dL_law_355 : decode cL_law 355 = .ok (.iconst 1, 1) := by decide +kernel
theorem dL_law_356 : decode cL_law 356 = .ok (.iadd, 1) := by decide +kernel
theorem dL_law_357 : decode cL_law 357 = .ok (.iaload, 1) := by decide +kernel
theorem dL_law_358 : decode cL_law 358 = .ok (.aload_n 0, 1) := by decide +kernel
theorem dL_law_359 : decode cL_law 359 = .ok (.iload_n 3, 1) := by decide +kernel
theorem dL_law_360 : decode cL_law 360 = .ok (.iconst 2, 1) := by decide +kernel
theorem dL_law_361 : decode cL_law 361 = .ok (.iadd, 1) := by decide +kernel
theorem dL_law_362 : decode cL_law 362 = .ok (.iaload, 1) := by decide +kernel
theorem dL_law_363 : decode cL_law 363 = .ok (.invokevirtual 41, 3) := by decide +kernel
theorem dL_law_366 : decode cL_law 366 = .ok (.aload_n 2, 1) := by decide +kernel
theorem dL_law_367 : decode cL_law 367 = .ok (.aload_n 0, 1) := by decide +kernel
theorem dL_law_368 : decode cL_law 368 = .ok (.iload_n 3, 1) := by decide +kernel
theorem dL_law_369 : decode cL_law 369 = .ok (.iconst 1, 1) := by decide +kernel
theorem dL_law_370 : decode cL_law 370 = .ok (.iadd, 1) := by decide +kernel
theorem dL_law_371 : decode cL_law 371 = .ok (.iaload, 1) := by decide +kernel
theorem dL_law_372 : decode cL_law 372 = .ok (.aload_n 0, 1) := by decide +kernel
theorem dL_law_373 : decode cL_law 373 = .ok (.iload_n 3, 1) := by decide +kernel
theorem dL_law_374 : decode cL_law 374 = .ok (.iconst 2, 1) := by decide +kernel
theorem dL_law_375 : decode cL_law 375 = .ok (.iadd, 1) := by decide +kernel
theorem dL_law_376 : decode cL_law 376 = .ok (.iaload, 1) := by decide +kernel
theorem dL_law_377 : decode cL_law 377 = .ok (.invokevirtual 44, 3) := by decide +kernel
theorem dL_law_380 : decode cL_law 380 = .ok (.if_icmp .eq 411, 3) := by decide +kernel
theorem dL_law_383 : decode cL_law 383 = .ok (.iconst 0, 1) := by decide +kernel
theorem dL_law_384 : decode cL_law 384 = .ok (.ireturn, 1) := by decide +kernel
theorem dL_law_385 : decode cL_law 385 = .ok (.aload_n 1, 1) := by decide +kernel
theorem dL_law_386 : decode cL_law 386 = .ok (.aload_n 0, 1) := by decide +kernel
theorem dL_law_387 : decode cL_law 387 = .ok (.iload_n 3, 1) := by decide +kernel
theorem dL_law_388 : decode cL_law 388 = .ok (.iconst 1, 1) := by decide +kernel
theorem dL_law_389 : decode cL_law 389 = .ok (.iadd, 1) := by decide +kernel
theorem dL_law_390 : decode cL_law 390 = .ok (.iaload, 1) := by decide +kernel
theorem dL_law_391 : decode cL_law 391 = .ok (.aload_n 0, 1) := by decide +kernel
theorem dL_law_392 : decode cL_law 392 = .ok (.iload_n 3, 1) := by decide +kernel
theorem dL_law_393 : decode cL_law 393 = .ok (.iconst 2, 1) := by decide +kernel
theorem dL_law_394 : decode cL_law 394 = .ok (.iadd, 1) := by decide +kernel
theorem dL_law_395 : decode cL_law 395 = .ok (.iaload, 1) := by decide +kernel
theorem dL_law_396 : decode cL_law 396 = .ok (.aload_n 0, 1) := by decide +kernel
theorem dL_law_397 : decode cL_law 397 = .ok (.iload_n 3, 1) := by decide +kernel
theorem dL_law_398 : decode cL_law 398 = .ok (.iconst 3, 1) := by decide +kernel
theorem dL_law_399 : decode cL_law 399 = .ok (.iadd, 1) := by decide +kernel
theorem dL_law_400 : decode cL_law 400 = .ok (.iaload, 1) := by decide +kernel
theorem dL_law_401 : decode cL_law 401 = .ok (.aload_n 0, 1) := by decide +kernel
theorem dL_law_402 : decode cL_law 402 = .ok (.iload_n 3, 1) := by decide +kernel
theorem dL_law_403 : decode cL_law 403 = .ok (.iconst 4, 1) := by decide +kernel
theorem dL_law_404 : decode cL_law 404 = .ok (.iadd, 1) := by decide +kernel
theorem dL_law_405 : decode cL_law 405 = .ok (.iaload, 1) := by decide +kernel
theorem dL_law_406 : decode cL_law 406 = .ok (.invokevirtual 45, 3) := by decide +kernel
theorem dL_law_409 : decode cL_law 409 = .ok (.aload_n 2, 1) := by decide +kernel
theorem dL_law_410 : decode cL_law 410 = .ok (.aload_n 0, 1) := by decide +kernel
theorem dL_law_411 : decode cL_law 411 = .ok (.iload_n 3, 1) := by decide +kernel
theorem dL_law_412 : decode cL_law 412 = .ok (.iconst 1, 1) := by decide +kernel
theorem dL_law_413 : decode cL_law 413 = .ok (.iadd, 1) := by decide +kernel
theorem dL_law_414 : decode cL_law 414 = .ok (.iaload, 1) := by decide +kernel
theorem dL_law_415 : decode cL_law 415 = .ok (.aload_n 0, 1) := by decide +kernel
theorem dL_law_416 : decode cL_law 416 = .ok (.iload_n 3, 1) := by decide +kernel
theorem dL_law_417 : decode cL_law 417 = .ok (.iconst 2, 1) := by decide +kernel
theorem dL_law_418 : decode cL_law 418 = .ok (.iadd, 1) := by decide +kernel
theorem dL_law_419 : decode cL_law 419 = .ok (.iaload, 1) := by decide +kernel
theorem dL_law_420 : decode cL_law 420 = .ok (.aload_n 0, 1) := by decide +kernel
theorem dL_law_421 : decode cL_law 421 = .ok (.iload_n 3, 1) := by decide +kernel
theorem dL_law_422 : decode cL_law 422 = .ok (.iconst 3, 1) := by decide +kernel
theorem dL_law_423 : decode cL_law 423 = .ok (.iadd, 1) := by decide +kernel
theorem dL_law_424 : decode cL_law 424 = .ok (.iaload, 1) := by decide +kernel
theorem dL_law_425 : decode cL_law 425 = .ok (.aload_n 0, 1) := by decide +kernel
theorem dL_law_426 : decode cL_law 426 = .ok (.iload_n 3, 1) := by decide +kernel
theorem dL_law_427 : decode cL_law 427 = .ok (.iconst 4, 1) := by decide +kernel
theorem dL_law_428 : decode cL_law 428 = .ok (.iadd, 1) := by decide +kernel
theorem dL_law_429 : decode cL_law 429 = .ok (.iaload, 1) := by decide +kernel
theorem dL_law_430 : decode cL_law 430 = .ok (.invokevirtual 48, 3) := by decide +kernel
theorem dL_law_433 : decode cL_law 433 = .ok (.if_icmp .eq 358, 3) := by decide +kernel
theorem dL_law_436 : decode cL_law 436 = .ok (.iconst 0, 1) := by decide +kernel
theorem dL_law_437 : decode cL_law 437 = .ok (.ireturn, 1) := by decide +kernel
theorem dL_law_438 : decode cL_law 438 = .ok (.aload_n 1, 1) := by decide +kernel
theorem dL_law_439 : decode cL_law 439 = .ok (.aload_n 0, 1) := by decide +kernel
theorem dL_law_440 : decode cL_law 440 = .ok (.iload_n 3, 1) := by decide +kernel
theorem dL_law_441 : decode cL_law 441 = .ok (.iconst 1, 1) := by decide +kernel
theorem dL_law_442 : decode cL_law 442 = .ok (.iadd, 1) := by decide +kernel
theorem dL_law_443 : decode cL_law 443 = .ok (.iaload, 1) := by decide +kernel
theorem dL_law_444 : decode cL_law 444 = .ok (.aload_n 0, 1) := by decide +kernel
theorem dL_law_445 : decode cL_law 445 = .ok (.iload_n 3, 1) := by decide +kernel
theorem dL_law_446 : decode cL_law 446 = .ok (.iconst 2, 1) := by decide +kernel
theorem dL_law_447 : decode cL_law 447 = .ok (.iadd, 1) := by decide +kernel
theorem dL_law_448 : decode cL_law 448 = .ok (.iaload, 1) := by decide +kernel
theorem dL_law_449 : decode cL_law 449 = .ok (.aload_n 0, 1) := by decide +kernel
theorem dL_law_450 : decode cL_law 450 = .ok (.iload_n 3, 1) := by decide +kernel
theorem dL_law_451 : decode cL_law 451 = .ok (.iconst 3, 1) := by decide +kernel
theorem dL_law_452 : decode cL_law 452 = .ok (.iadd, 1) := by decide +kernel
theorem dL_law_453 : decode cL_law 453 = .ok (.iaload, 1) := by decide +kernel
theorem dL_law_454 : decode cL_law 454 = .ok (.aload_n 0, 1) := by decide +kernel
theorem dL_law_455 : decode cL_law 455 = .ok (.iload_n 3, 1) := by decide +kernel
theorem dL_law_456 : decode cL_law 456 = .ok (.iconst 4, 1) := by decide +kernel
theorem dL_law_457 : decode cL_law 457 = .ok (.iadd, 1) := by decide +kernel
theorem dL_law_458 : decode cL_law 458 = .ok (.iaload, 1) := by decide +kernel
theorem dL_law_459 : decode cL_law 459 = .ok (.invokevirtual 49, 3) := by decide +kernel
theorem dL_law_462 : decode cL_law 462 = .ok (.aload_n 2, 1) := by decide +kernel
theorem dL_law_463 : decode cL_law 463 = .ok (.aload_n 0, 1) := by decide +kernel
theorem dL_law_464 : decode cL_law 464 = .ok (.iload_n 3, 1) := by decide +kernel
theorem dL_law_465 : decode cL_law 465 = .ok (.iconst 1, 1) := by decide +kernel
theorem dL_law_466 : decode cL_law 466 = .ok (.iadd, 1) := by decide +kernel
theorem dL_law_467 : decode cL_law 467 = .ok (.iaload, 1) := by decide +kernel
theorem dL_law_468 : decode cL_law 468 = .ok (.aload_n 0, 1) := by decide +kernel
theorem dL_law_469 : decode cL_law 469 = .ok (.iload_n 3, 1) := by decide +kernel
theorem dL_law_470 : decode cL_law 470 = .ok (.iconst 2, 1) := by decide +kernel
theorem dL_law_471 : decode cL_law 471 = .ok (.iadd, 1) := by decide +kernel
theorem dL_law_472 : decode cL_law 472 = .ok (.iaload, 1) := by decide +kernel
theorem dL_law_473 : decode cL_law 473 = .ok (.aload_n 0, 1) := by decide +kernel
theorem dL_law_474 : decode cL_law 474 = .ok (.iload_n 3, 1) := by decide +kernel
theorem dL_law_475 : decode cL_law 475 = .ok (.iconst 3, 1) := by decide +kernel
theorem dL_law_476 : decode cL_law 476 = .ok (.iadd, 1) := by decide +kernel
theorem dL_law_477 : decode cL_law 477 = .ok (.iaload, 1) := by decide +kernel
theorem dL_law_478 : decode cL_law 478 = .ok (.aload_n 0, 1) := by decide +kernel
theorem dL_law_479 : decode cL_law 479 = .ok (.iload_n 3, 1) := by decide +kernel
theorem dL_law_480 : decode cL_law 480 = .ok (.iconst 4, 1) := by decide +kernel
theorem dL_law_481 : decode cL_law 481 = .ok (.iadd, 1) := by decide +kernel
theorem dL_law_482 : decode cL_law 482 = .ok (.iaload, 1) := by decide +kernel
theorem dL_law_483 : decode cL_law 483 = .ok (.invokevirtual 52, 3) := by decide +kernel
theorem dL_law_486 : decode cL_law 486 = .ok (.if_icmp .eq 305, 3) := by decide +kernel
theorem dL_law_489 : decode cL_law 489 = .ok (.iconst 0, 1) := by decide +kernel
theorem dL_law_490 : decode cL_law 490 = .ok (.ireturn, 1) := by decide +kernel
theorem dL_law_491 : decode cL_law 491 = .ok (.aload_n 1, 1) := by decide +kernel
theorem dL_law_492 : decode cL_law 492 = .ok (.aload_n 0, 1) := by decide +kernel
theorem dL_law_493 : decode cL_law 493 = .ok (.iload_n 3, 1) := by decide +kernel
theorem dL_law_494 : decode cL_law 494 = .ok (.iconst 1, 1) := by decide +kernel
theorem dL_law_495 : decode cL_law 495 = .ok (.iadd, 1) := by decide +kernel
theorem dL_law_496 : decode cL_law 496 = .ok (.iaload, 1) := by decide +kernel
theorem dL_law_497 : decode cL_law 497 = .ok (.aload_n 0, 1) := by decide +kernel
theorem dL_law_498 : decode cL_law 498 = .ok (.iload_n 3, 1) := by decide +kernel
theorem dL_law_499 : decode cL_law 499 = .ok (.iconst 2, 1) := by decide +kernel
theorem dL_law_500 : decode cL_law 500 = .ok (.iadd, 1) := by decide +kernel
theorem dL_law_501 : decode cL_law 501 = .ok (.iaload, 1) := by decide +kernel
theorem dL_law_502 : decode cL_law 502 = .ok (.aload_n 0, 1) := by decide +kernel
theorem dL_law_503 : decode cL_law 503 = .ok (.iload_n 3, 1) := by decide +kernel
theorem dL_law_504 : decode cL_law 504 = .ok (.iconst 3, 1) := by decide +kernel
theorem dL_law_505 : decode cL_law 505 = .ok (.iadd, 1) := by decide +kernel
theorem dL_law_506 : decode cL_law 506 = .ok (.iaload, 1) := by decide +kernel
theorem dL_law_507 : decode cL_law 507 = .ok (.aload_n 0, 1) := by decide +kernel
theorem dL_law_508 : decode cL_law 508 = .ok (.iload_n 3, 1) := by decide +kernel
theorem dL_law_509 : decode cL_law 509 = .ok (.iconst 4, 1) := by decide +kernel
theorem dL_law_510 : decode cL_law 510 = .ok (.iadd, 1) := by decide +kernel
theorem dL_law_511 : decode cL_law 511 = .ok (.iaload, 1) := by decide +kernel
theorem dL_law_512 : decode cL_law 512 = .ok (.invokevirtual 53, 3) := by decide +kernel
theorem dL_law_515 : decode cL_law 515 = .ok (.aload_n 2, 1) := by decide +kernel
theorem dL_law_516 : decode cL_law 516 = .ok (.aload_n 0, 1) := by decide +kernel
theorem dL_law_517 : decode cL_law 517 = .ok (.iload_n 3, 1) := by decide +kernel
theorem dL_law_518 : decode cL_law 518 = .ok (.iconst 1, 1) := by decide +kernel
theorem dL_law_519 : decode cL_law 519 = .ok (.iadd, 1) := by decide +kernel
theorem dL_law_520 : decode cL_law 520 = .ok (.iaload, 1) := by decide +kernel
theorem dL_law_521 : decode cL_law 521 = .ok (.aload_n 0, 1) := by decide +kernel
theorem dL_law_522 : decode cL_law 522 = .ok (.iload_n 3, 1) := by decide +kernel
theorem dL_law_523 : decode cL_law 523 = .ok (.iconst 2, 1) := by decide +kernel
theorem dL_law_524 : decode cL_law 524 = .ok (.iadd, 1) := by decide +kernel
theorem dL_law_525 : decode cL_law 525 = .ok (.iaload, 1) := by decide +kernel
theorem dL_law_526 : decode cL_law 526 = .ok (.aload_n 0, 1) := by decide +kernel
theorem dL_law_527 : decode cL_law 527 = .ok (.iload_n 3, 1) := by decide +kernel
theorem dL_law_528 : decode cL_law 528 = .ok (.iconst 3, 1) := by decide +kernel
theorem dL_law_529 : decode cL_law 529 = .ok (.iadd, 1) := by decide +kernel
theorem dL_law_530 : decode cL_law 530 = .ok (.iaload, 1) := by decide +kernel
theorem dL_law_531 : decode cL_law 531 = .ok (.aload_n 0, 1) := by decide +kernel
theorem dL_law_532 : decode cL_law 532 = .ok (.iload_n 3, 1) := by decide +kernel
theorem dL_law_533 : decode cL_law 533 = .ok (.iconst 4, 1) := by decide +kernel
theorem dL_law_534 : decode cL_law 534 = .ok (.iadd, 1) := by decide +kernel
theorem dL_law_535 : decode cL_law 535 = .ok (.iaload, 1) := by decide +kernel
theorem dL_law_536 : decode cL_law 536 = .ok (.invokevirtual 56, 3) := by decide +kernel
theorem dL_law_539 : decode cL_law 539 = .ok (.if_icmp .eq 252, 3) := by decide +kernel
theorem dL_law_542 : decode cL_law 542 = .ok (.iconst 0, 1) := by decide +kernel
theorem dL_law_543 : decode cL_law 543 = .ok (.ireturn, 1) := by decide +kernel
theorem dL_law_544 : decode cL_law 544 = .ok (.aload_n 1, 1) := by decide +kernel
theorem dL_law_545 : decode cL_law 545 = .ok (.invokevirtual 57, 3) := by decide +kernel
theorem dL_law_548 : decode cL_law 548 = .ok (.aload_n 2, 1) := by decide +kernel
theorem dL_law_549 : decode cL_law 549 = .ok (.invokevirtual 61, 3) := by decide +kernel
theorem dL_law_552 : decode cL_law 552 = .ok (.if_icmp .eq 239, 3) := by decide +kernel
theorem dL_law_555 : decode cL_law 555 = .ok (.iconst 0, 1) := by decide +kernel
theorem dL_law_556 : decode cL_law 556 = .ok (.ireturn, 1) := by decide +kernel
theorem dL_law_557 : decode cL_law 557 = .ok (.aload_n 1, 1) := by decide +kernel
theorem dL_law_558 : decode cL_law 558 = .ok (.aload_n 0, 1) := by decide +kernel
theorem dL_law_559 : decode cL_law 559 = .ok (.iload_n 3, 1) := by decide +kernel
theorem dL_law_560 : decode cL_law 560 = .ok (.iconst 1, 1) := by decide +kernel
theorem dL_law_561 : decode cL_law 561 = .ok (.iadd, 1) := by decide +kernel
theorem dL_law_562 : decode cL_law 562 = .ok (.iaload, 1) := by decide +kernel
theorem dL_law_563 : decode cL_law 563 = .ok (.invokevirtual 62, 3) := by decide +kernel
theorem dL_law_566 : decode cL_law 566 = .ok (.aload_n 2, 1) := by decide +kernel
theorem dL_law_567 : decode cL_law 567 = .ok (.aload_n 0, 1) := by decide +kernel
theorem dL_law_568 : decode cL_law 568 = .ok (.iload_n 3, 1) := by decide +kernel
theorem dL_law_569 : decode cL_law 569 = .ok (.iconst 1, 1) := by decide +kernel
theorem dL_law_570 : decode cL_law 570 = .ok (.iadd, 1) := by decide +kernel
theorem dL_law_571 : decode cL_law 571 = .ok (.iaload, 1) := by decide +kernel
theorem dL_law_572 : decode cL_law 572 = .ok (.invokevirtual 65, 3) := by decide +kernel
theorem dL_law_575 : decode cL_law 575 = .ok (.if_icmp .eq 216, 3) := by decide +kernel
theorem dL_law_578 : decode cL_law 578 = .ok (.iconst 0, 1) := by decide +kernel
theorem dL_law_579 : decode cL_law 579 = .ok (.ireturn, 1) := by decide +kernel
theorem dL_law_580 : decode cL_law 580 = .ok (.aload_n 1, 1) := by decide +kernel
theorem dL_law_581 : decode cL_law 581 = .ok (.aload_n 0, 1) := by decide +kernel
theorem dL_law_582 : decode cL_law 582 = .ok (.iload_n 3, 1) := by decide +kernel
theorem dL_law_583 : decode cL_law 583 = .ok (.iconst 1, 1) := by decide +kernel
theorem dL_law_584 : decode cL_law 584 = .ok (.iadd, 1) := by decide +kernel
theorem dL_law_585 : decode cL_law 585 = .ok (.iaload, 1) := by decide +kernel
theorem dL_law_586 : decode cL_law 586 = .ok (.aload_n 0, 1) := by decide +kernel
theorem dL_law_587 : decode cL_law 587 = .ok (.iload_n 3, 1) := by decide +kernel
theorem dL_law_588 : decode cL_law 588 = .ok (.iconst 2, 1) := by decide +kernel
theorem dL_law_589 : decode cL_law 589 = .ok (.iadd, 1) := by decide +kernel
theorem dL_law_590 : decode cL_law 590 = .ok (.iaload, 1) := by decide +kernel
theorem dL_law_591 : decode cL_law 591 = .ok (.invokevirtual 66, 3) := by decide +kernel
theorem dL_law_594 : decode cL_law 594 = .ok (.aload_n 2, 1) := by decide +kernel
theorem dL_law_595 : decode cL_law 595 = .ok (.aload_n 0, 1) := by decide +kernel
theorem dL_law_596 : decode cL_law 596 = .ok (.iload_n 3, 1) := by decide +kernel
theorem dL_law_597 : decode cL_law 597 = .ok (.iconst 1, 1) := by decide +kernel
theorem dL_law_598 : decode cL_law 598 = .ok (.iadd, 1) := by decide +kernel
theorem dL_law_599 : decode cL_law 599 = .ok (.iaload, 1) := by decide +kernel
theorem dL_law_600 : decode cL_law 600 = .ok (.aload_n 0, 1) := by decide +kernel
theorem dL_law_601 : decode cL_law 601 = .ok (.iload_n 3, 1) := by decide +kernel
theorem dL_law_602 : decode cL_law 602 = .ok (.iconst 2, 1) := by decide +kernel
theorem dL_law_603 : decode cL_law 603 = .ok (.iadd, 1) := by decide +kernel
theorem dL_law_604 : decode cL_law 604 = .ok (.iaload, 1) := by decide +kernel
theorem dL_law_605 : decode cL_law 605 = .ok (.invokevirtual 69, 3) := by decide +kernel
theorem dL_law_608 : decode cL_law 608 = .ok (.if_icmp .eq 183, 3) := by decide +kernel
theorem dL_law_611 : decode cL_law 611 = .ok (.iconst 0, 1) := by decide +kernel
theorem dL_law_612 : decode cL_law 612 = .ok (.ireturn, 1) := by decide +kernel
theorem dL_law_613 : decode cL_law 613 = .ok (.aload_n 1, 1) := by decide +kernel
theorem dL_law_614 : decode cL_law 614 = .ok (.aload_n 0, 1) := by decide +kernel
theorem dL_law_615 : decode cL_law 615 = .ok (.iload_n 3, 1) := by decide +kernel
theorem dL_law_616 : decode cL_law 616 = .ok (.iconst 1, 1) := by decide +kernel
theorem dL_law_617 : decode cL_law 617 = .ok (.iadd, 1) := by decide +kernel
theorem dL_law_618 : decode cL_law 618 = .ok (.iaload, 1) := by decide +kernel
theorem dL_law_619 : decode cL_law 619 = .ok (.aload_n 0, 1) := by decide +kernel
theorem dL_law_620 : decode cL_law 620 = .ok (.iload_n 3, 1) := by decide +kernel
theorem dL_law_621 : decode cL_law 621 = .ok (.iconst 2, 1) := by decide +kernel
theorem dL_law_622 : decode cL_law 622 = .ok (.iadd, 1) := by decide +kernel
theorem dL_law_623 : decode cL_law 623 = .ok (.iaload, 1) := by decide +kernel
theorem dL_law_624 : decode cL_law 624 = .ok (.invokevirtual 70, 3) := by decide +kernel
theorem dL_law_627 : decode cL_law 627 = .ok (.aload_n 2, 1) := by decide +kernel
theorem dL_law_628 : decode cL_law 628 = .ok (.aload_n 0, 1) := by decide +kernel
theorem dL_law_629 : decode cL_law 629 = .ok (.iload_n 3, 1) := by decide +kernel
theorem dL_law_630 : decode cL_law 630 = .ok (.iconst 1, 1) := by decide +kernel
theorem dL_law_631 : decode cL_law 631 = .ok (.iadd, 1) := by decide +kernel
theorem dL_law_632 : decode cL_law 632 = .ok (.iaload, 1) := by decide +kernel
theorem dL_law_633 : decode cL_law 633 = .ok (.aload_n 0, 1) := by decide +kernel
theorem dL_law_634 : decode cL_law 634 = .ok (.iload_n 3, 1) := by decide +kernel
theorem dL_law_635 : decode cL_law 635 = .ok (.iconst 2, 1) := by decide +kernel
theorem dL_law_636 : decode cL_law 636 = .ok (.iadd, 1) := by decide +kernel
theorem dL_law_637 : decode cL_law 637 = .ok (.iaload, 1) := by decide +kernel
theorem dL_law_638 : decode cL_law 638 = .ok (.invokevirtual 73, 3) := by decide +kernel
theorem dL_law_641 : decode cL_law 641 = .ok (.if_icmp .eq 150, 3) := by decide +kernel
theorem dL_law_644 : decode cL_law 644 = .ok (.iconst 0, 1) := by decide +kernel
theorem dL_law_645 : decode cL_law 645 = .ok (.ireturn, 1) := by decide +kernel
theorem dL_law_646 : decode cL_law 646 = .ok (.aload_n 1, 1) := by decide +kernel
theorem dL_law_647 : decode cL_law 647 = .ok (.aload_n 0, 1) := by decide +kernel
theorem dL_law_648 : decode cL_law 648 = .ok (.iload_n 3, 1) := by decide +kernel
theorem dL_law_649 : decode cL_law 649 = .ok (.iconst 1, 1) := by decide +kernel
theorem dL_law_650 : decode cL_law 650 = .ok (.iadd, 1) := by decide +kernel
theorem dL_law_651 : decode cL_law 651 = .ok (.iaload, 1) := by decide +kernel
theorem dL_law_652 : decode cL_law 652 = .ok (.aload_n 0, 1) := by decide +kernel
theorem dL_law_653 : decode cL_law 653 = .ok (.iload_n 3, 1) := by decide +kernel
theorem dL_law_654 : decode cL_law 654 = .ok (.iconst 2, 1) := by decide +kernel
theorem dL_law_655 : decode cL_law 655 = .ok (.iadd, 1) := by decide +kernel
theorem dL_law_656 : decode cL_law 656 = .ok (.iaload, 1) := by decide +kernel
theorem dL_law_657 : decode cL_law 657 = .ok (.aload_n 0, 1) := by decide +kernel
theorem dL_law_658 : decode cL_law 658 = .ok (.iload_n 3, 1) := by decide +kernel
theorem dL_law_659 : decode cL_law 659 = .ok (.iconst 3, 1) := by decide +kernel
theorem dL_law_660 : decode cL_law 660 = .ok (.iadd, 1) := by decide +kernel
theorem dL_law_661 : decode cL_law 661 = .ok (.iaload, 1) := by decide +kernel
theorem dL_law_662 : decode cL_law 662 = .ok (.invokevirtual 74, 3) := by decide +kernel
theorem dL_law_665 : decode cL_law 665 = .ok (.aload_n 2, 1) := by decide +kernel
theorem dL_law_666 : decode cL_law 666 = .ok (.aload_n 0, 1) := by decide +kernel
theorem dL_law_667 : decode cL_law 667 = .ok (.iload_n 3, 1) := by decide +kernel
theorem dL_law_668 : decode cL_law 668 = .ok (.iconst 1, 1) := by decide +kernel
theorem dL_law_669 : decode cL_law 669 = .ok (.iadd, 1) := by decide +kernel
theorem dL_law_670 : decode cL_law 670 = .ok (.iaload, 1) := by decide +kernel
theorem dL_law_671 : decode cL_law 671 = .ok (.aload_n 0, 1) := by decide +kernel
theorem dL_law_672 : decode cL_law 672 = .ok (.iload_n 3, 1) := by decide +kernel
theorem dL_law_673 : decode cL_law 673 = .ok (.iconst 2, 1) := by decide +kernel
theorem dL_law_674 : decode cL_law 674 = .ok (.iadd, 1) := by decide +kernel
theorem dL_law_675 : decode cL_law 675 = .ok (.iaload, 1) := by decide +kernel
theorem dL_law_676 : decode cL_law 676 = .ok (.aload_n 0, 1) := by decide +kernel
theorem dL_law_677 : decode cL_law 677 = .ok (.iload_n 3, 1) := by decide +kernel
theorem dL_law_678 : decode cL_law 678 = .ok (.iconst 3, 1) := by decide +kernel
theorem dL_law_679 : decode cL_law 679 = .ok (.iadd, 1) := by decide +kernel
theorem dL_law_680 : decode cL_law 680 = .ok (.iaload, 1) := by decide +kernel
theorem dL_law_681 : decode cL_law 681 = .ok (.invokevirtual 78, 3) := by decide +kernel
theorem dL_law_684 : decode cL_law 684 = .ok (.if_icmp .eq 107, 3) := by decide +kernel
theorem dL_law_687 : decode cL_law 687 = .ok (.iconst 0, 1) := by decide +kernel
theorem dL_law_688 : decode cL_law 688 = .ok (.ireturn, 1) := by decide +kernel
theorem dL_law_689 : decode cL_law 689 = .ok (.aload_n 1, 1) := by decide +kernel
theorem dL_law_690 : decode cL_law 690 = .ok (.aload_n 0, 1) := by decide +kernel
theorem dL_law_691 : decode cL_law 691 = .ok (.iload_n 3, 1) := by decide +kernel
theorem dL_law_692 : decode cL_law 692 = .ok (.iconst 1, 1) := by decide +kernel
theorem dL_law_693 : decode cL_law 693 = .ok (.iadd, 1) := by decide +kernel
theorem dL_law_694 : decode cL_law 694 = .ok (.iaload, 1) := by decide +kernel
theorem dL_law_695 : decode cL_law 695 = .ok (.aload_n 0, 1) := by decide +kernel
theorem dL_law_696 : decode cL_law 696 = .ok (.iload_n 3, 1) := by decide +kernel
theorem dL_law_697 : decode cL_law 697 = .ok (.iconst 2, 1) := by decide +kernel
theorem dL_law_698 : decode cL_law 698 = .ok (.iadd, 1) := by decide +kernel
theorem dL_law_699 : decode cL_law 699 = .ok (.iaload, 1) := by decide +kernel
theorem dL_law_700 : decode cL_law 700 = .ok (.invokevirtual 79, 3) := by decide +kernel
theorem dL_law_703 : decode cL_law 703 = .ok (.aload_n 2, 1) := by decide +kernel
theorem dL_law_704 : decode cL_law 704 = .ok (.aload_n 0, 1) := by decide +kernel
theorem dL_law_705 : decode cL_law 705 = .ok (.iload_n 3, 1) := by decide +kernel
theorem dL_law_706 : decode cL_law 706 = .ok (.iconst 1, 1) := by decide +kernel
theorem dL_law_707 : decode cL_law 707 = .ok (.iadd, 1) := by decide +kernel
theorem dL_law_708 : decode cL_law 708 = .ok (.iaload, 1) := by decide +kernel
theorem dL_law_709 : decode cL_law 709 = .ok (.aload_n 0, 1) := by decide +kernel
theorem dL_law_710 : decode cL_law 710 = .ok (.iload_n 3, 1) := by decide +kernel
theorem dL_law_711 : decode cL_law 711 = .ok (.iconst 2, 1) := by decide +kernel
theorem dL_law_712 : decode cL_law 712 = .ok (.iadd, 1) := by decide +kernel
theorem dL_law_713 : decode cL_law 713 = .ok (.iaload, 1) := by decide +kernel
theorem dL_law_714 : decode cL_law 714 = .ok (.invokevirtual 82, 3) := by decide +kernel
theorem dL_law_717 : decode cL_law 717 = .ok (.if_icmp .eq 74, 3) := by decide +kernel
theorem dL_law_720 : decode cL_law 720 = .ok (.iconst 0, 1) := by decide +kernel
theorem dL_law_721 : decode cL_law 721 = .ok (.ireturn, 1) := by decide +kernel
theorem dL_law_722 : decode cL_law 722 = .ok (.aload_n 1, 1) := by decide +kernel
theorem dL_law_723 : decode cL_law 723 = .ok (.aload_n 0, 1) := by decide +kernel
theorem dL_law_724 : decode cL_law 724 = .ok (.iload_n 3, 1) := by decide +kernel
theorem dL_law_725 : decode cL_law 725 = .ok (.iconst 1, 1) := by decide +kernel
theorem dL_law_726 : decode cL_law 726 = .ok (.iadd, 1) := by decide +kernel
theorem dL_law_727 : decode cL_law 727 = .ok (.iaload, 1) := by decide +kernel
theorem dL_law_728 : decode cL_law 728 = .ok (.aload_n 0, 1) := by decide +kernel
theorem dL_law_729 : decode cL_law 729 = .ok (.iload_n 3, 1) := by decide +kernel
theorem dL_law_730 : decode cL_law 730 = .ok (.iconst 2, 1) := by decide +kernel
theorem dL_law_731 : decode cL_law 731 = .ok (.iadd, 1) := by decide +kernel
theorem dL_law_732 : decode cL_law 732 = .ok (.iaload, 1) := by decide +kernel
theorem dL_law_733 : decode cL_law 733 = .ok (.invokevirtual 83, 3) := by decide +kernel
theorem dL_law_736 : decode cL_law 736 = .ok (.aload_n 2, 1) := by decide +kernel
theorem dL_law_737 : decode cL_law 737 = .ok (.aload_n 0, 1) := by decide +kernel
theorem dL_law_738 : decode cL_law 738 = .ok (.iload_n 3, 1) := by decide +kernel
theorem dL_law_739 : decode cL_law 739 = .ok (.iconst 1, 1) := by decide +kernel
theorem dL_law_740 : decode cL_law 740 = .ok (.iadd, 1) := by decide +kernel
theorem dL_law_741 : decode cL_law 741 = .ok (.iaload, 1) := by decide +kernel
theorem dL_law_742 : decode cL_law 742 = .ok (.aload_n 0, 1) := by decide +kernel
theorem dL_law_743 : decode cL_law 743 = .ok (.iload_n 3, 1) := by decide +kernel
theorem dL_law_744 : decode cL_law 744 = .ok (.iconst 2, 1) := by decide +kernel
theorem dL_law_745 : decode cL_law 745 = .ok (.iadd, 1) := by decide +kernel
theorem dL_law_746 : decode cL_law 746 = .ok (.iaload, 1) := by decide +kernel
theorem dL_law_747 : decode cL_law 747 = .ok (.invokevirtual 86, 3) := by decide +kernel
theorem dL_law_750 : decode cL_law 750 = .ok (.if_icmp .eq 41, 3) := by decide +kernel
theorem dL_law_753 : decode cL_law 753 = .ok (.iconst 0, 1) := by decide +kernel
theorem dL_law_754 : decode cL_law 754 = .ok (.ireturn, 1) := by decide +kernel
theorem dL_law_755 : decode cL_law 755 = .ok (.aload_n 1, 1) := by decide +kernel
theorem dL_law_756 : decode cL_law 756 = .ok (.aload_n 0, 1) := by decide +kernel
theorem dL_law_757 : decode cL_law 757 = .ok (.iload_n 3, 1) := by decide +kernel
theorem dL_law_758 : decode cL_law 758 = .ok (.iconst 1, 1) := by decide +kernel
theorem dL_law_759 : decode cL_law 759 = .ok (.iadd, 1) := by decide +kernel
theorem dL_law_760 : decode cL_law 760 = .ok (.iaload, 1) := by decide +kernel
theorem dL_law_761 : decode cL_law 761 = .ok (.invokevirtual 87, 3) := by decide +kernel
theorem dL_law_764 : decode cL_law 764 = .ok (.aload_n 2, 1) := by decide +kernel
theorem dL_law_765 : decode cL_law 765 = .ok (.aload_n 0, 1) := by decide +kernel
theorem dL_law_766 : decode cL_law 766 = .ok (.iload_n 3, 1) := by decide +kernel
theorem dL_law_767 : decode cL_law 767 = .ok (.iconst 1, 1) := by decide +kernel
theorem dL_law_768 : decode cL_law 768 = .ok (.iadd, 1) := by decide +kernel
theorem dL_law_769 : decode cL_law 769 = .ok (.iaload, 1) := by decide +kernel
theorem dL_law_770 : decode cL_law 770 = .ok (.invokevirtual 90, 3) := by decide +kernel
theorem dL_law_773 : decode cL_law 773 = .ok (.if_icmp .eq 18, 3) := by decide +kernel
theorem dL_law_776 : decode cL_law 776 = .ok (.iconst 0, 1) := by decide +kernel
theorem dL_law_777 : decode cL_law 777 = .ok (.ireturn, 1) := by decide +kernel
theorem dL_law_778 : decode cL_law 778 = .ok (.aload_n 1, 1) := by decide +kernel
theorem dL_law_779 : decode cL_law 779 = .ok (.invokevirtual 91, 3) := by decide +kernel
theorem dL_law_782 : decode cL_law 782 = .ok (.aload_n 2, 1) := by decide +kernel
theorem dL_law_783 : decode cL_law 783 = .ok (.invokevirtual 94, 3) := by decide +kernel
theorem dL_law_786 : decode cL_law 786 = .ok (.if_icmp .eq 5, 3) := by decide +kernel
theorem dL_law_789 : decode cL_law 789 = .ok (.iconst 0, 1) := by decide +kernel
theorem dL_law_790 : decode cL_law 790 = .ok (.ireturn, 1) := by decide +kernel
theorem dL_law_791 : decode cL_law 791 = .ok (.iinc 3 6, 3) := by decide +kernel
theorem dL_law_794 : decode cL_law 794 = .ok (.goto (-776), 3) := by decide +kernel
theorem dL_law_797 : decode cL_law 797 = .ok (.iconst 1, 1) := by decide +kernel
theorem dL_law_798 : decode cL_law 798 = .ok (.ireturn, 1) := by decide +kernel
end
section
def TB : List Cond := lw_tbl.filter goodWord
theorem tb_of {w : Cond} (h : w ∈ lw_tbl) (g : goodWord w = true) : w ∈ TB := List.mem_filter.mpr ⟨h, g⟩
theorem tb_good {w : Cond} (h : w ∈ TB) : (w.onTables && w.keeps) = true ∨ ∃ ty, w = .arrayClass ty := good_of_word (List.mem_filter.mp h).2
theorem tbG {c : Cond} (h : c ∈ TB) : GoodIn TB (c :: TB) := fun w hw => (List.mem_cons.mp hw).elim (fun e => e ▸ ⟨h, tb_good h⟩) (fun h => ⟨h, tb_good h⟩)
theorem tb_sub {args : Array Value} {s : State} (h : ∀ w ∈ lw_tbl, w.before args s = true) : ∀ w ∈ TB, w.before args s = true := fun w hw => h w (List.mem_filter.mp hw).1
theorem ws_X7_hasTank : Cond.selects RX7 yX7_hasTank yX7_hasTank ∈ TB := tb_of (List.mem_of_getElem? (i := 0) rfl) rfl
theorem ws_X7_attempt : Cond.selects RX7 yX7_attempt yX7_attempt ∈ TB := tb_of (List.mem_of_getElem? (i := 1) rfl) rfl
theorem ws_X7_earlierAt : Cond.selects RX7 yX7_earlierAt yX7_earlierAt ∈ TB := tb_of (List.mem_of_getElem? (i := 2) rfl) rfl
theorem ws_X1_step : Cond.selects RX1 yX1_step yX1_step ∈ TB := tb_of (List.mem_of_getElem? (i := 3) rfl) rfl
theorem ws_X1_sinkFor : Cond.selects RX1 yX1_sinkFor yX1_sinkFor ∈ TB := tb_of (List.mem_of_getElem? (i := 4) rfl) rfl
theorem ws_X1_letOut : Cond.selects RX1 yX1_letOut yX1_letOut ∈ TB := tb_of (List.mem_of_getElem? (i := 5) rfl) rfl
theorem ws_X2_farSide : Cond.selects RX2 yX2_farSide yX2_farSide ∈ TB := tb_of (List.mem_of_getElem? (i := 6) rfl) rfl
theorem ws_X2_hindIsNext : Cond.selects RX2 yX2_hindIsNext yX2_hindIsNext ∈ TB := tb_of (List.mem_of_getElem? (i := 7) rfl) rfl
theorem ws_X2_mixOne : Cond.selects RX2 yX2_mixOne yX2_mixOne ∈ TB := tb_of (List.mem_of_getElem? (i := 8) rfl) rfl
theorem ws_X2_clash : Cond.selects RX2 yX2_clash yX2_clash ∈ TB := tb_of (List.mem_of_getElem? (i := 9) rfl) rfl
theorem ws_X7_hoursFor : Cond.selects RX7 yX7_hoursFor yX7_hoursFor ∈ TB := tb_of (List.mem_of_getElem? (i := 10) rfl) rfl
theorem ws_X7_register : Cond.selects RX7 yX7_register yX7_register ∈ TB := tb_of (List.mem_of_getElem? (i := 11) rfl) rfl
theorem ws_X8_isDoor : Cond.selects RX8 yX8_isDoor yX8_isDoor ∈ TB := tb_of (List.mem_of_getElem? (i := 12) rfl) rfl
theorem ws_X8_isTank : Cond.selects RX8 yX8_isTank yX8_isTank ∈ TB := tb_of (List.mem_of_getElem? (i := 13) rfl) rfl
theorem ws_X8_tries : Cond.selects RX8 yX8_tries yX8_tries ∈ TB := tb_of (List.mem_of_getElem? (i := 14) rfl) rfl
theorem ws_X8_writeDown : Cond.selects RX8 yX8_writeDown yX8_writeDown ∈ TB := tb_of (List.mem_of_getElem? (i := 15) rfl) rfl
theorem ws_X8_note : Cond.selects RX8 yX8_note yX8_note ∈ TB := tb_of (List.mem_of_getElem? (i := 16) rfl) rfl
theorem ws_X8_steps : Cond.selects RX8 yX8_steps yX8_steps ∈ TB := tb_of (List.mem_of_getElem? (i := 17) rfl) rfl
theorem ws_X8_goesOut : Cond.selects RX8 yX8_goesOut yX8_goesOut ∈ TB := tb_of (List.mem_of_getElem? (i := 18) rfl) rfl
theorem ws_X8_isPure : Cond.selects RX8 yX8_isPure yX8_isPure ∈ TB := tb_of (List.mem_of_getElem? (i := 19) rfl) rfl
theorem ws_X8_fits : Cond.selects RX8 yX8_fits yX8_fits ∈ TB := tb_of (List.mem_of_getElem? (i := 20) rfl) rfl
theorem ws_X8_mixes : Cond.selects RX8 yX8_mixes yX8_mixes ∈ TB := tb_of (List.mem_of_getElem? (i := 21) rfl) rfl
theorem ws_X8_border : Cond.selects RX8 yX8_border yX8_border ∈ TB := tb_of (List.mem_of_getElem? (i := 22) rfl) rfl
theorem ws_X8_neighbour : Cond.selects RX8 yX8_neighbour yX8_neighbour ∈ TB := tb_of (List.mem_of_getElem? (i := 23) rfl) rfl
theorem ws_X8_isWrong : Cond.selects RX8 yX8_isWrong yX8_isWrong ∈ TB := tb_of (List.mem_of_getElem? (i := 24) rfl) rfl
theorem ws_X8_mayNot : Cond.selects RX8 yX8_mayNot yX8_mayNot ∈ TB := tb_of (List.mem_of_getElem? (i := 25) rfl) rfl
theorem ws_X8_bringBack : Cond.selects RX8 yX8_bringBack yX8_bringBack ∈ TB := tb_of (List.mem_of_getElem? (i := 26) rfl) rfl
theorem ws_X8_noted : Cond.selects RX8 yX8_noted yX8_noted ∈ TB := tb_of (List.mem_of_getElem? (i := 27) rfl) rfl
theorem ws_X8_ends : Cond.selects RX8 yX8_ends yX8_ends ∈ TB := tb_of (List.mem_of_getElem? (i := 28) rfl) rfl
theorem ws_X8_late : Cond.selects RX8 yX8_late yX8_late ∈ TB := tb_of (List.mem_of_getElem? (i := 29) rfl) rfl
theorem wn_L : Cond.initialized RL ∈ TB := tb_of (List.mem_of_getElem? (i := 30) rfl) rfl
theorem wn_X7 : Cond.initialized RX7 ∈ TB := tb_of (List.mem_of_getElem? (i := 31) rfl) rfl
theorem wn_X5 : Cond.initialized RX5 ∈ TB := tb_of (List.mem_of_getElem? (i := 32) rfl) rfl
theorem wn_J7 : Cond.initialized RJ7 ∈ TB := tb_of (List.mem_of_getElem? (i := 33) rfl) rfl
theorem wn_X0 : Cond.initialized RX0 ∈ TB := tb_of (List.mem_of_getElem? (i := 34) rfl) rfl
theorem wn_X6 : Cond.initialized RX6 ∈ TB := tb_of (List.mem_of_getElem? (i := 35) rfl) rfl
theorem wn_X3 : Cond.initialized RX3 ∈ TB := tb_of (List.mem_of_getElem? (i := 36) rfl) rfl
theorem wn_X1 : Cond.initialized RX1 ∈ TB := tb_of (List.mem_of_getElem? (i := 37) rfl) rfl
theorem wn_X2 : Cond.initialized RX2 ∈ TB := tb_of (List.mem_of_getElem? (i := 38) rfl) rfl
theorem wn_X4 : Cond.initialized RX4 ∈ TB := tb_of (List.mem_of_getElem? (i := 39) rfl) rfl
theorem wn_X8 : Cond.initialized RX8 ∈ TB := tb_of (List.mem_of_getElem? (i := 40) rfl) rfl
theorem wn_J9 : Cond.initialized RJ9 ∈ TB := tb_of (List.mem_of_getElem? (i := 41) rfl) rfl
theorem wn_J10 : Cond.initialized RJ10 ∈ TB := tb_of (List.mem_of_getElem? (i := 42) rfl) rfl
theorem wk_L_7 : Cond.classLink RL 7 RX7 ∈ TB := tb_of (List.mem_of_getElem? (i := 43) rfl) rfl
theorem wb_X7 : Cond.instantiable RX7 9 ∈ TB := tb_of (List.mem_of_getElem? (i := 44) rfl) rfl
theorem wm_L_9 : Cond.methodLink RL 9 yX7_init ∈ TB := tb_of (List.mem_of_getElem? (i := 45) rfl) rfl
theorem wi_X7_init : Cond.instanceMethod yX7_init ∈ TB := tb_of (List.mem_of_getElem? (i := 46) rfl) rfl
theorem wc_X7_init : Cond.code yX7_init cX7_init 1 none ∈ TB := tb_of (List.mem_of_getElem? (i := 47) rfl) rfl
theorem wm_X7_3 : Cond.methodLink RX7 3 objectInit ∈ TB := tb_of (List.mem_of_getElem? (i := 48) rfl) rfl
theorem wi_oi : Cond.instanceMethod objectInit ∈ TB := tb_of (List.mem_of_getElem? (i := 49) rfl) rfl
theorem wc_oi : Cond.code objectInit ⟨#[0xb1]⟩ 1 none ∈ TB := tb_of (List.mem_of_getElem? (i := 50) rfl) rfl
theorem wk_X7_9 : Cond.classLink RX7 9 RX5 ∈ TB := tb_of (List.mem_of_getElem? (i := 51) rfl) rfl
theorem wb_X5 : Cond.instantiable RX5 4 ∈ TB := tb_of (List.mem_of_getElem? (i := 52) rfl) rfl
theorem wm_X7_11 : Cond.methodLink RX7 11 yX5_init ∈ TB := tb_of (List.mem_of_getElem? (i := 53) rfl) rfl
theorem wi_X5_init : Cond.instanceMethod yX5_init ∈ TB := tb_of (List.mem_of_getElem? (i := 54) rfl) rfl
theorem wc_X5_init : Cond.code yX5_init cX5_init 2 none ∈ TB := tb_of (List.mem_of_getElem? (i := 55) rfl) rfl
theorem wm_X5_3 : Cond.methodLink RX5 3 objectInit ∈ TB := tb_of (List.mem_of_getElem? (i := 56) rfl) rfl
theorem wm_X5_25 : Cond.methodLink RX5 25 yJ7_fill_53178 ∈ TB := tb_of (List.mem_of_getElem? (i := 57) rfl) rfl
theorem wt_J7_fill_53178 : Cond.static yJ7_fill_53178 ∈ TB := tb_of (List.mem_of_getElem? (i := 58) rfl) rfl
theorem wc_J7_fill_53178 : Cond.code yJ7_fill_53178 cJ7_fill_53178 4 none ∈ TB := tb_of (List.mem_of_getElem? (i := 59) rfl) rfl
theorem wf_X5_9 : Cond.fieldLink RX5 9 "OilLine$Tables" "may" "[Z" ∈ TB := tb_of (List.mem_of_getElem? (i := 60) rfl) rfl
theorem wf_X5_15 : Cond.fieldLink RX5 15 "OilLine$Tables" "mix" "[I" ∈ TB := tb_of (List.mem_of_getElem? (i := 61) rfl) rfl
theorem wf_X5_19 : Cond.fieldLink RX5 19 "OilLine$Tables" "grace" "[I" ∈ TB := tb_of (List.mem_of_getElem? (i := 62) rfl) rfl
theorem wf_X7_121 : Cond.fieldLink RX7 121 "OilLine$Tables" "grace" "[I" ∈ TB := tb_of (List.mem_of_getElem? (i := 63) rfl) rfl
theorem wf_X1_145 : Cond.fieldLink RX1 145 "OilLine$Tables" "grace" "[I" ∈ TB := tb_of (List.mem_of_getElem? (i := 64) rfl) rfl
theorem wf_X5_22 : Cond.fieldLink RX5 22 "OilLine$Tables" "price" "[I" ∈ TB := tb_of (List.mem_of_getElem? (i := 65) rfl) rfl
theorem wf_X7_131 : Cond.fieldLink RX7 131 "OilLine$Tables" "price" "[I" ∈ TB := tb_of (List.mem_of_getElem? (i := 66) rfl) rfl
theorem wA_Z : Cond.arrayClass .boolean ∈ TB := tb_of (List.mem_of_getElem? (i := 76) rfl) rfl
theorem wA_I : Cond.arrayClass .int ∈ TB := tb_of (List.mem_of_getElem? (i := 77) rfl) rfl
theorem wk_X7_16 : Cond.classLink RX7 16 RX0 ∈ TB := tb_of (List.mem_of_getElem? (i := 78) rfl) rfl
theorem wb_X0 : Cond.instantiable RX0 6 ∈ TB := tb_of (List.mem_of_getElem? (i := 79) rfl) rfl
theorem wN_X7_18 : Cond.methodLinkNest RX7 18 yX0_init "OilLine" ∈ lw_tbl := List.mem_of_getElem? (i := 80) rfl
theorem wi_X0_init : Cond.instanceMethod yX0_init ∈ TB := tb_of (List.mem_of_getElem? (i := 81) rfl) rfl
theorem wc_X0_init : Cond.code yX0_init cX0_init 1 none ∈ TB := tb_of (List.mem_of_getElem? (i := 82) rfl) rfl
theorem wm_X0_3 : Cond.methodLink RX0 3 objectInit ∈ TB := tb_of (List.mem_of_getElem? (i := 83) rfl) rfl
theorem wf_X0_9 : Cond.fieldLink RX0 9 "OilLine$Doors" "size" "I" ∈ TB := tb_of (List.mem_of_getElem? (i := 84) rfl) rfl
theorem wf_X7_84 : Cond.fieldLink RX7 84 "OilLine$Doors" "size" "I" ∈ TB := tb_of (List.mem_of_getElem? (i := 85) rfl) rfl
theorem wf_X0_15 : Cond.fieldLink RX0 15 "OilLine$Doors" "place" "[I" ∈ TB := tb_of (List.mem_of_getElem? (i := 86) rfl) rfl
theorem wf_X3_31 : Cond.fieldLink RX3 31 "OilLine$Doors" "place" "[I" ∈ TB := tb_of (List.mem_of_getElem? (i := 87) rfl) rfl
theorem wf_X7_205 : Cond.fieldLink RX7 205 "OilLine$Doors" "place" "[I" ∈ TB := tb_of (List.mem_of_getElem? (i := 88) rfl) rfl
theorem wf_X0_19 : Cond.fieldLink RX0 19 "OilLine$Doors" "rate" "[I" ∈ TB := tb_of (List.mem_of_getElem? (i := 89) rfl) rfl
theorem wf_X7_128 : Cond.fieldLink RX7 128 "OilLine$Doors" "rate" "[I" ∈ TB := tb_of (List.mem_of_getElem? (i := 90) rfl) rfl
theorem wf_X0_22 : Cond.fieldLink RX0 22 "OilLine$Doors" "isTank" "[Z" ∈ TB := tb_of (List.mem_of_getElem? (i := 91) rfl) rfl
theorem wf_X7_99 : Cond.fieldLink RX7 99 "OilLine$Doors" "isTank" "[Z" ∈ TB := tb_of (List.mem_of_getElem? (i := 92) rfl) rfl
theorem wf_X1_71 : Cond.fieldLink RX1 71 "OilLine$Doors" "isTank" "[Z" ∈ TB := tb_of (List.mem_of_getElem? (i := 93) rfl) rfl
theorem wf_X0_26 : Cond.fieldLink RX0 26 "OilLine$Doors" "least" "[I" ∈ TB := tb_of (List.mem_of_getElem? (i := 94) rfl) rfl
theorem wf_X1_80 : Cond.fieldLink RX1 80 "OilLine$Doors" "least" "[I" ∈ TB := tb_of (List.mem_of_getElem? (i := 95) rfl) rfl
theorem wf_X7_199 : Cond.fieldLink RX7 199 "OilLine$Doors" "least" "[I" ∈ TB := tb_of (List.mem_of_getElem? (i := 96) rfl) rfl
theorem wf_X0_29 : Cond.fieldLink RX0 29 "OilLine$Doors" "most" "[I" ∈ TB := tb_of (List.mem_of_getElem? (i := 97) rfl) rfl
theorem wf_X1_93 : Cond.fieldLink RX1 93 "OilLine$Doors" "most" "[I" ∈ TB := tb_of (List.mem_of_getElem? (i := 98) rfl) rfl
theorem wf_X7_202 : Cond.fieldLink RX7 202 "OilLine$Doors" "most" "[I" ∈ TB := tb_of (List.mem_of_getElem? (i := 99) rfl) rfl
theorem wk_X7_23 : Cond.classLink RX7 23 RX6 ∈ TB := tb_of (List.mem_of_getElem? (i := 113) rfl) rfl
theorem wb_X6 : Cond.instantiable RX6 5 ∈ TB := tb_of (List.mem_of_getElem? (i := 114) rfl) rfl
theorem wN_X7_25 : Cond.methodLinkNest RX7 25 yX6_init "OilLine" ∈ lw_tbl := List.mem_of_getElem? (i := 115) rfl
theorem wi_X6_init : Cond.instanceMethod yX6_init ∈ TB := tb_of (List.mem_of_getElem? (i := 116) rfl) rfl
theorem wc_X6_init : Cond.code yX6_init cX6_init 1 none ∈ TB := tb_of (List.mem_of_getElem? (i := 117) rfl) rfl
theorem wm_X6_3 : Cond.methodLink RX6 3 objectInit ∈ TB := tb_of (List.mem_of_getElem? (i := 118) rfl) rfl
theorem wf_X6_9 : Cond.fieldLink RX6 9 "OilLine$Wishes" "size" "I" ∈ TB := tb_of (List.mem_of_getElem? (i := 119) rfl) rfl
theorem wf_X7_70 : Cond.fieldLink RX7 70 "OilLine$Wishes" "size" "I" ∈ TB := tb_of (List.mem_of_getElem? (i := 120) rfl) rfl
theorem wf_X6_15 : Cond.fieldLink RX6 15 "OilLine$Wishes" "tank" "[I" ∈ TB := tb_of (List.mem_of_getElem? (i := 121) rfl) rfl
theorem wf_X6_19 : Cond.fieldLink RX6 19 "OilLine$Wishes" "wanted" "[I" ∈ TB := tb_of (List.mem_of_getElem? (i := 122) rfl) rfl
theorem wf_X6_22 : Cond.fieldLink RX6 22 "OilLine$Wishes" "by" "[I" ∈ TB := tb_of (List.mem_of_getElem? (i := 123) rfl) rfl
theorem wf_X6_25 : Cond.fieldLink RX6 25 "OilLine$Wishes" "cameAhead" "[I" ∈ TB := tb_of (List.mem_of_getElem? (i := 124) rfl) rfl
theorem wk_X7_30 : Cond.classLink RX7 30 RX3 ∈ TB := tb_of (List.mem_of_getElem? (i := 136) rfl) rfl
theorem wb_X3 : Cond.instantiable RX3 5 ∈ TB := tb_of (List.mem_of_getElem? (i := 137) rfl) rfl
theorem wN_X7_32 : Cond.methodLinkNest RX7 32 yX3_init "OilLine" ∈ lw_tbl := List.mem_of_getElem? (i := 138) rfl
theorem wi_X3_init : Cond.instanceMethod yX3_init ∈ TB := tb_of (List.mem_of_getElem? (i := 139) rfl) rfl
theorem wc_X3_init : Cond.code yX3_init cX3_init 1 none ∈ TB := tb_of (List.mem_of_getElem? (i := 140) rfl) rfl
theorem wm_X3_1 : Cond.methodLink RX3 1 objectInit ∈ TB := tb_of (List.mem_of_getElem? (i := 141) rfl) rfl
theorem wf_X3_7 : Cond.fieldLink RX3 7 "OilLine$Plan" "kind" "I" ∈ TB := tb_of (List.mem_of_getElem? (i := 142) rfl) rfl
theorem wf_X1_107 : Cond.fieldLink RX1 107 "OilLine$Plan" "kind" "I" ∈ TB := tb_of (List.mem_of_getElem? (i := 143) rfl) rfl
theorem wf_X3_13 : Cond.fieldLink RX3 13 "OilLine$Plan" "sourceTank" "I" ∈ TB := tb_of (List.mem_of_getElem? (i := 144) rfl) rfl
theorem wf_X1_66 : Cond.fieldLink RX1 66 "OilLine$Plan" "sourceTank" "I" ∈ TB := tb_of (List.mem_of_getElem? (i := 145) rfl) rfl
theorem wf_X3_16 : Cond.fieldLink RX3 16 "OilLine$Plan" "sinkDoor" "I" ∈ TB := tb_of (List.mem_of_getElem? (i := 146) rfl) rfl
theorem wf_X1_86 : Cond.fieldLink RX1 86 "OilLine$Plan" "sinkDoor" "I" ∈ TB := tb_of (List.mem_of_getElem? (i := 147) rfl) rfl
theorem wf_X3_19 : Cond.fieldLink RX3 19 "OilLine$Plan" "from" "I" ∈ TB := tb_of (List.mem_of_getElem? (i := 148) rfl) rfl
theorem wf_X1_100 : Cond.fieldLink RX1 100 "OilLine$Plan" "from" "I" ∈ TB := tb_of (List.mem_of_getElem? (i := 149) rfl) rfl
theorem wf_X3_22 : Cond.fieldLink RX3 22 "OilLine$Plan" "to" "I" ∈ TB := tb_of (List.mem_of_getElem? (i := 150) rfl) rfl
theorem wf_X1_83 : Cond.fieldLink RX1 83 "OilLine$Plan" "to" "I" ∈ TB := tb_of (List.mem_of_getElem? (i := 151) rfl) rfl
theorem wk_X7_44 : Cond.classLink RX7 44 RX1 ∈ TB := tb_of (List.mem_of_getElem? (i := 163) rfl) rfl
theorem wb_X1 : Cond.instantiable RX1 7 ∈ TB := tb_of (List.mem_of_getElem? (i := 164) rfl) rfl
theorem wN_X7_46 : Cond.methodLinkNest RX7 46 yX1_init "OilLine" ∈ lw_tbl := List.mem_of_getElem? (i := 165) rfl
theorem wi_X1_init : Cond.instanceMethod yX1_init ∈ TB := tb_of (List.mem_of_getElem? (i := 166) rfl) rfl
theorem wc_X1_init : Cond.code yX1_init cX1_init 1 none ∈ TB := tb_of (List.mem_of_getElem? (i := 167) rfl) rfl
theorem wm_X1_3 : Cond.methodLink RX1 3 objectInit ∈ TB := tb_of (List.mem_of_getElem? (i := 168) rfl) rfl
theorem wk_X1_21 : Cond.classLink RX1 21 RX2 ∈ TB := tb_of (List.mem_of_getElem? (i := 169) rfl) rfl
theorem wb_X2 : Cond.instantiable RX2 5 ∈ TB := tb_of (List.mem_of_getElem? (i := 170) rfl) rfl
theorem wN_X1_23 : Cond.methodLinkNest RX1 23 yX2_init "OilLine" ∈ lw_tbl := List.mem_of_getElem? (i := 171) rfl
theorem wi_X2_init : Cond.instanceMethod yX2_init ∈ TB := tb_of (List.mem_of_getElem? (i := 172) rfl) rfl
theorem wc_X2_init : Cond.code yX2_init cX2_init 1 none ∈ TB := tb_of (List.mem_of_getElem? (i := 173) rfl) rfl
theorem wm_X2_3 : Cond.methodLink RX2 3 objectInit ∈ TB := tb_of (List.mem_of_getElem? (i := 174) rfl) rfl
theorem wf_X2_9 : Cond.fieldLink RX2 9 "OilLine$Pipe" "size" "I" ∈ TB := tb_of (List.mem_of_getElem? (i := 175) rfl) rfl
theorem wf_X7_77 : Cond.fieldLink RX7 77 "OilLine$Pipe" "size" "I" ∈ TB := tb_of (List.mem_of_getElem? (i := 176) rfl) rfl
theorem wf_X2_15 : Cond.fieldLink RX2 15 "OilLine$Pipe" "batchOf" "[I" ∈ TB := tb_of (List.mem_of_getElem? (i := 177) rfl) rfl
theorem wf_X1_124 : Cond.fieldLink RX1 124 "OilLine$Pipe" "batchOf" "[I" ∈ TB := tb_of (List.mem_of_getElem? (i := 178) rfl) rfl
theorem wf_X7_166 : Cond.fieldLink RX7 166 "OilLine$Pipe" "batchOf" "[I" ∈ TB := tb_of (List.mem_of_getElem? (i := 179) rfl) rfl
theorem wf_X2_19 : Cond.fieldLink RX2 19 "OilLine$Pipe" "kindOf" "[I" ∈ TB := tb_of (List.mem_of_getElem? (i := 180) rfl) rfl
theorem wf_X1_138 : Cond.fieldLink RX1 138 "OilLine$Pipe" "kindOf" "[I" ∈ TB := tb_of (List.mem_of_getElem? (i := 181) rfl) rfl
theorem wf_X7_169 : Cond.fieldLink RX7 169 "OilLine$Pipe" "kindOf" "[I" ∈ TB := tb_of (List.mem_of_getElem? (i := 182) rfl) rfl
theorem wf_X2_22 : Cond.fieldLink RX2 22 "OilLine$Pipe" "foreOf" "[I" ∈ TB := tb_of (List.mem_of_getElem? (i := 183) rfl) rfl
theorem wf_X1_154 : Cond.fieldLink RX1 154 "OilLine$Pipe" "foreOf" "[I" ∈ TB := tb_of (List.mem_of_getElem? (i := 184) rfl) rfl
theorem wf_X7_172 : Cond.fieldLink RX7 172 "OilLine$Pipe" "foreOf" "[I" ∈ TB := tb_of (List.mem_of_getElem? (i := 185) rfl) rfl
theorem wf_X2_25 : Cond.fieldLink RX2 25 "OilLine$Pipe" "went" "[I" ∈ TB := tb_of (List.mem_of_getElem? (i := 186) rfl) rfl
theorem wf_X7_178 : Cond.fieldLink RX7 178 "OilLine$Pipe" "went" "[I" ∈ TB := tb_of (List.mem_of_getElem? (i := 187) rfl) rfl
theorem wk_X1_28 : Cond.classLink RX1 28 RX4 ∈ TB := tb_of (List.mem_of_getElem? (i := 199) rfl) rfl
theorem wb_X4 : Cond.instantiable RX4 4 ∈ TB := tb_of (List.mem_of_getElem? (i := 200) rfl) rfl
theorem wN_X1_30 : Cond.methodLinkNest RX1 30 yX4_init "OilLine" ∈ lw_tbl := List.mem_of_getElem? (i := 201) rfl
theorem wi_X4_init : Cond.instanceMethod yX4_init ∈ TB := tb_of (List.mem_of_getElem? (i := 202) rfl) rfl
theorem wc_X4_init : Cond.code yX4_init cX4_init 1 none ∈ TB := tb_of (List.mem_of_getElem? (i := 203) rfl) rfl
theorem wm_X4_3 : Cond.methodLink RX4 3 objectInit ∈ TB := tb_of (List.mem_of_getElem? (i := 204) rfl) rfl
theorem wf_X4_9 : Cond.fieldLink RX4 9 "OilLine$Stock" "amount" "[I" ∈ TB := tb_of (List.mem_of_getElem? (i := 205) rfl) rfl
theorem wf_X1_77 : Cond.fieldLink RX1 77 "OilLine$Stock" "amount" "[I" ∈ TB := tb_of (List.mem_of_getElem? (i := 206) rfl) rfl
theorem wf_X7_193 : Cond.fieldLink RX7 193 "OilLine$Stock" "amount" "[I" ∈ TB := tb_of (List.mem_of_getElem? (i := 207) rfl) rfl
theorem wf_X4_15 : Cond.fieldLink RX4 15 "OilLine$Stock" "foreign" "[I" ∈ TB := tb_of (List.mem_of_getElem? (i := 208) rfl) rfl
theorem wf_X7_196 : Cond.fieldLink RX7 196 "OilLine$Stock" "foreign" "[I" ∈ TB := tb_of (List.mem_of_getElem? (i := 209) rfl) rfl
theorem wf_X4_18 : Cond.fieldLink RX4 18 "OilLine$Stock" "came" "[I" ∈ TB := tb_of (List.mem_of_getElem? (i := 210) rfl) rfl
theorem wf_X6_28 : Cond.fieldLink RX6 28 "OilLine$Stock" "came" "[I" ∈ TB := tb_of (List.mem_of_getElem? (i := 211) rfl) rfl
theorem wf_X7_142 : Cond.fieldLink RX7 142 "OilLine$Stock" "came" "[I" ∈ TB := tb_of (List.mem_of_getElem? (i := 212) rfl) rfl
theorem wf_X4_21 : Cond.fieldLink RX4 21 "OilLine$Stock" "slop" "[I" ∈ TB := tb_of (List.mem_of_getElem? (i := 213) rfl) rfl
theorem wf_X1_127 : Cond.fieldLink RX1 127 "OilLine$Stock" "slop" "[I" ∈ TB := tb_of (List.mem_of_getElem? (i := 214) rfl) rfl
theorem wf_X7_208 : Cond.fieldLink RX7 208 "OilLine$Stock" "slop" "[I" ∈ TB := tb_of (List.mem_of_getElem? (i := 215) rfl) rfl
theorem wf_X1_9 : Cond.fieldLink RX1 9 "OilLine$Moment" "time" "I" ∈ TB := tb_of (List.mem_of_getElem? (i := 225) rfl) rfl
theorem wf_X6_52 : Cond.fieldLink RX6 52 "OilLine$Moment" "time" "I" ∈ TB := tb_of (List.mem_of_getElem? (i := 226) rfl) rfl
theorem wf_X7_163 : Cond.fieldLink RX7 163 "OilLine$Moment" "time" "I" ∈ TB := tb_of (List.mem_of_getElem? (i := 227) rfl) rfl
theorem wf_X1_15 : Cond.fieldLink RX1 15 "OilLine$Moment" "cost" "I" ∈ TB := tb_of (List.mem_of_getElem? (i := 228) rfl) rfl
theorem wf_X7_219 : Cond.fieldLink RX7 219 "OilLine$Moment" "cost" "I" ∈ TB := tb_of (List.mem_of_getElem? (i := 229) rfl) rfl
theorem wf_X1_18 : Cond.fieldLink RX1 18 "OilLine$Moment" "batches" "I" ∈ TB := tb_of (List.mem_of_getElem? (i := 230) rfl) rfl
theorem wf_X7_160 : Cond.fieldLink RX7 160 "OilLine$Moment" "batches" "I" ∈ TB := tb_of (List.mem_of_getElem? (i := 231) rfl) rfl
theorem wf_X1_24 : Cond.fieldLink RX1 24 "OilLine$Moment" "pipe" "LOilLine$Pipe;" ∈ TB := tb_of (List.mem_of_getElem? (i := 232) rfl) rfl
theorem wf_X7_73 : Cond.fieldLink RX7 73 "OilLine$Moment" "pipe" "LOilLine$Pipe;" ∈ TB := tb_of (List.mem_of_getElem? (i := 233) rfl) rfl
theorem wf_X1_31 : Cond.fieldLink RX1 31 "OilLine$Moment" "stock" "LOilLine$Stock;" ∈ TB := tb_of (List.mem_of_getElem? (i := 234) rfl) rfl
theorem wf_X6_44 : Cond.fieldLink RX6 44 "OilLine$Moment" "stock" "LOilLine$Stock;" ∈ TB := tb_of (List.mem_of_getElem? (i := 235) rfl) rfl
theorem wf_X7_107 : Cond.fieldLink RX7 107 "OilLine$Moment" "stock" "LOilLine$Stock;" ∈ TB := tb_of (List.mem_of_getElem? (i := 236) rfl) rfl
theorem wf_X1_35 : Cond.fieldLink RX1 35 "OilLine$Moment" "wentOut" "[I" ∈ TB := tb_of (List.mem_of_getElem? (i := 237) rfl) rfl
theorem wf_X7_190 : Cond.fieldLink RX7 190 "OilLine$Moment" "wentOut" "[I" ∈ TB := tb_of (List.mem_of_getElem? (i := 238) rfl) rfl
theorem wf_X1_39 : Cond.fieldLink RX1 39 "OilLine$Moment" "keptAt" "[I" ∈ TB := tb_of (List.mem_of_getElem? (i := 239) rfl) rfl
theorem wf_X6_39 : Cond.fieldLink RX6 39 "OilLine$Moment" "keptAt" "[I" ∈ TB := tb_of (List.mem_of_getElem? (i := 240) rfl) rfl
theorem wf_X7_139 : Cond.fieldLink RX7 139 "OilLine$Moment" "keptAt" "[I" ∈ TB := tb_of (List.mem_of_getElem? (i := 241) rfl) rfl
theorem wO_M : Cond.arrayOver (.object "OilLine$Moment") ∈ lw_tbl := List.mem_of_getElem? (i := 257) rfl
theorem wm_X7_59 : Cond.methodLink RX7 59 yX1_renew ∈ TB := tb_of (List.mem_of_getElem? (i := 258) rfl) rfl
theorem wi_X1_renew : Cond.instanceMethod yX1_renew ∈ TB := tb_of (List.mem_of_getElem? (i := 259) rfl) rfl
theorem ws_X1_renew : Cond.selects RX1 yX1_renew yX1_renew ∈ TB := tb_of (List.mem_of_getElem? (i := 260) rfl) rfl
theorem wc_X1_renew : Cond.code yX1_renew cX1_renew 2 none ∈ TB := tb_of (List.mem_of_getElem? (i := 261) rfl) rfl
theorem wm_X1_42 : Cond.methodLink RX1 42 yX2_renew ∈ TB := tb_of (List.mem_of_getElem? (i := 262) rfl) rfl
theorem wi_X2_renew : Cond.instanceMethod yX2_renew ∈ TB := tb_of (List.mem_of_getElem? (i := 263) rfl) rfl
theorem ws_X2_renew : Cond.selects RX2 yX2_renew yX2_renew ∈ TB := tb_of (List.mem_of_getElem? (i := 264) rfl) rfl
theorem wc_X2_renew : Cond.code yX2_renew cX2_renew 3 none ∈ TB := tb_of (List.mem_of_getElem? (i := 265) rfl) rfl
theorem wm_X2_28 : Cond.methodLink RX2 28 yX2_put ∈ TB := tb_of (List.mem_of_getElem? (i := 266) rfl) rfl
theorem wi_X2_put : Cond.instanceMethod yX2_put ∈ TB := tb_of (List.mem_of_getElem? (i := 267) rfl) rfl
theorem ws_X2_put : Cond.selects RX2 yX2_put yX2_put ∈ TB := tb_of (List.mem_of_getElem? (i := 268) rfl) rfl
theorem wc_X2_put : Cond.code yX2_put cX2_put 4 none ∈ TB := tb_of (List.mem_of_getElem? (i := 269) rfl) rfl
theorem wm_X1_46 : Cond.methodLink RX1 46 yX4_clear ∈ TB := tb_of (List.mem_of_getElem? (i := 270) rfl) rfl
theorem wi_X4_clear : Cond.instanceMethod yX4_clear ∈ TB := tb_of (List.mem_of_getElem? (i := 271) rfl) rfl
theorem ws_X4_clear : Cond.selects RX4 yX4_clear yX4_clear ∈ TB := tb_of (List.mem_of_getElem? (i := 272) rfl) rfl
theorem wc_X4_clear : Cond.code yX4_clear cX4_clear 1 none ∈ TB := tb_of (List.mem_of_getElem? (i := 273) rfl) rfl
theorem wm_X4_24 : Cond.methodLink RX4 24 yJ7_fill_53178 ∈ TB := tb_of (List.mem_of_getElem? (i := 274) rfl) rfl
theorem wf_X7_12 : Cond.fieldLink RX7 12 "OilLine" "tables" "LOilLine$Tables;" ∈ TB := tb_of (List.mem_of_getElem? (i := 275) rfl) rfl
theorem wf_X7_19 : Cond.fieldLink RX7 19 "OilLine" "doors" "LOilLine$Doors;" ∈ TB := tb_of (List.mem_of_getElem? (i := 276) rfl) rfl
theorem wf_X7_26 : Cond.fieldLink RX7 26 "OilLine" "wishes" "LOilLine$Wishes;" ∈ TB := tb_of (List.mem_of_getElem? (i := 277) rfl) rfl
theorem wf_X7_33 : Cond.fieldLink RX7 33 "OilLine" "plan" "LOilLine$Plan;" ∈ TB := tb_of (List.mem_of_getElem? (i := 278) rfl) rfl
theorem wf_X7_37 : Cond.fieldLink RX7 37 "OilLine" "batchKind" "[I" ∈ TB := tb_of (List.mem_of_getElem? (i := 279) rfl) rfl
theorem wf_X7_41 : Cond.fieldLink RX7 41 "OilLine" "batchDoor" "[I" ∈ TB := tb_of (List.mem_of_getElem? (i := 280) rfl) rfl
theorem wf_X7_47 : Cond.fieldLink RX7 47 "OilLine" "now" "LOilLine$Moment;" ∈ TB := tb_of (List.mem_of_getElem? (i := 281) rfl) rfl
theorem wf_X7_51 : Cond.fieldLink RX7 51 "OilLine" "earlier" "[LOilLine$Moment;" ∈ TB := tb_of (List.mem_of_getElem? (i := 282) rfl) rfl
theorem wf_X7_55 : Cond.fieldLink RX7 55 "OilLine" "undoable" "I" ∈ TB := tb_of (List.mem_of_getElem? (i := 283) rfl) rfl
theorem wm_L_13 : Cond.methodLink RL 13 yX7_line ∈ TB := tb_of (List.mem_of_getElem? (i := 303) rfl) rfl
theorem wi_X7_line : Cond.instanceMethod yX7_line ∈ TB := tb_of (List.mem_of_getElem? (i := 304) rfl) rfl
theorem ws_X7_line : Cond.selects RX7 yX7_line yX7_line ∈ TB := tb_of (List.mem_of_getElem? (i := 305) rfl) rfl
theorem wc_X7_line : Cond.code yX7_line cX7_line 2 (some .int) ∈ TB := tb_of (List.mem_of_getElem? (i := 306) rfl) rfl
theorem wm_X7_63 : Cond.methodLink RX7 63 yX7_within ∈ TB := tb_of (List.mem_of_getElem? (i := 307) rfl) rfl
theorem wt_X7_within : Cond.static yX7_within ∈ TB := tb_of (List.mem_of_getElem? (i := 308) rfl) rfl
theorem wc_X7_within : Cond.code yX7_within cX7_within 3 (some .boolean) ∈ TB := tb_of (List.mem_of_getElem? (i := 309) rfl) rfl
theorem wm_X7_67 : Cond.methodLink RX7 67 yX0_clear ∈ TB := tb_of (List.mem_of_getElem? (i := 310) rfl) rfl
theorem wi_X0_clear : Cond.instanceMethod yX0_clear ∈ TB := tb_of (List.mem_of_getElem? (i := 311) rfl) rfl
theorem ws_X0_clear : Cond.selects RX0 yX0_clear yX0_clear ∈ TB := tb_of (List.mem_of_getElem? (i := 312) rfl) rfl
theorem wc_X0_clear : Cond.code yX0_clear cX0_clear 2 none ∈ TB := tb_of (List.mem_of_getElem? (i := 313) rfl) rfl
theorem wm_L_18 : Cond.methodLink RL 18 yX7_door ∈ TB := tb_of (List.mem_of_getElem? (i := 314) rfl) rfl
theorem wi_X7_door : Cond.instanceMethod yX7_door ∈ TB := tb_of (List.mem_of_getElem? (i := 315) rfl) rfl
theorem ws_X7_door : Cond.selects RX7 yX7_door yX7_door ∈ TB := tb_of (List.mem_of_getElem? (i := 316) rfl) rfl
theorem wc_X7_door : Cond.code yX7_door cX7_door 2 (some .int) ∈ TB := tb_of (List.mem_of_getElem? (i := 317) rfl) rfl
theorem wm_X7_80 : Cond.methodLink RX7 80 yX0_isTaken ∈ TB := tb_of (List.mem_of_getElem? (i := 318) rfl) rfl
theorem wi_X0_isTaken : Cond.instanceMethod yX0_isTaken ∈ TB := tb_of (List.mem_of_getElem? (i := 319) rfl) rfl
theorem ws_X0_isTaken : Cond.selects RX0 yX0_isTaken yX0_isTaken ∈ TB := tb_of (List.mem_of_getElem? (i := 320) rfl) rfl
theorem wc_X0_isTaken : Cond.code yX0_isTaken cX0_isTaken 3 (some .boolean) ∈ TB := tb_of (List.mem_of_getElem? (i := 321) rfl) rfl
theorem wm_X7_85 : Cond.methodLink RX7 85 yX0_open ∈ TB := tb_of (List.mem_of_getElem? (i := 322) rfl) rfl
theorem wi_X0_open : Cond.instanceMethod yX0_open ∈ TB := tb_of (List.mem_of_getElem? (i := 323) rfl) rfl
theorem ws_X0_open : Cond.selects RX0 yX0_open yX0_open ∈ TB := tb_of (List.mem_of_getElem? (i := 324) rfl) rfl
theorem wc_X0_open : Cond.code yX0_open cX0_open 3 (some .int) ∈ TB := tb_of (List.mem_of_getElem? (i := 325) rfl) rfl
theorem wm_L_22 : Cond.methodLink RL 22 yX7_tank ∈ TB := tb_of (List.mem_of_getElem? (i := 326) rfl) rfl
theorem wi_X7_tank : Cond.instanceMethod yX7_tank ∈ TB := tb_of (List.mem_of_getElem? (i := 327) rfl) rfl
theorem ws_X7_tank : Cond.selects RX7 yX7_tank yX7_tank ∈ TB := tb_of (List.mem_of_getElem? (i := 328) rfl) rfl
theorem wc_X7_tank : Cond.code yX7_tank cX7_tank 7 (some .int) ∈ TB := tb_of (List.mem_of_getElem? (i := 329) rfl) rfl
theorem wm_X7_89 : Cond.methodLink RX7 89 yX0_has ∈ TB := tb_of (List.mem_of_getElem? (i := 330) rfl) rfl
theorem wi_X0_has : Cond.instanceMethod yX0_has ∈ TB := tb_of (List.mem_of_getElem? (i := 331) rfl) rfl
theorem ws_X0_has : Cond.selects RX0 yX0_has yX0_has ∈ TB := tb_of (List.mem_of_getElem? (i := 332) rfl) rfl
theorem wc_X0_has : Cond.code yX0_has cX0_has 2 (some .boolean) ∈ TB := tb_of (List.mem_of_getElem? (i := 333) rfl) rfl
theorem wN_X0_32 : Cond.methodLinkNest RX0 32 yX7_within "OilLine" ∈ lw_tbl := List.mem_of_getElem? (i := 334) rfl
theorem wm_X7_92 : Cond.methodLink RX7 92 yX7_isKind ∈ TB := tb_of (List.mem_of_getElem? (i := 335) rfl) rfl
theorem wt_X7_isKind : Cond.static yX7_isKind ∈ TB := tb_of (List.mem_of_getElem? (i := 336) rfl) rfl
theorem wc_X7_isKind : Cond.code yX7_isKind cX7_isKind 1 (some .boolean) ∈ TB := tb_of (List.mem_of_getElem? (i := 337) rfl) rfl
theorem wm_X7_95 : Cond.methodLink RX7 95 yX7_tankNumber ∈ TB := tb_of (List.mem_of_getElem? (i := 338) rfl) rfl
theorem wt_X7_tankNumber : Cond.static yX7_tankNumber ∈ TB := tb_of (List.mem_of_getElem? (i := 339) rfl) rfl
theorem wc_X7_tankNumber : Cond.code yX7_tankNumber cX7_tankNumber 2 (some .int) ∈ TB := tb_of (List.mem_of_getElem? (i := 340) rfl) rfl
theorem wm_X7_103 : Cond.methodLink RX7 103 yX0_build ∈ TB := tb_of (List.mem_of_getElem? (i := 341) rfl) rfl
theorem wi_X0_build : Cond.instanceMethod yX0_build ∈ TB := tb_of (List.mem_of_getElem? (i := 342) rfl) rfl
theorem ws_X0_build : Cond.selects RX0 yX0_build yX0_build ∈ TB := tb_of (List.mem_of_getElem? (i := 343) rfl) rfl
theorem wc_X0_build : Cond.code yX0_build cX0_build 4 none ∈ TB := tb_of (List.mem_of_getElem? (i := 344) rfl) rfl
theorem wm_X7_111 : Cond.methodLink RX7 111 yX4_fill ∈ TB := tb_of (List.mem_of_getElem? (i := 345) rfl) rfl
theorem wi_X4_fill : Cond.instanceMethod yX4_fill ∈ TB := tb_of (List.mem_of_getElem? (i := 346) rfl) rfl
theorem ws_X4_fill : Cond.selects RX4 yX4_fill yX4_fill ∈ TB := tb_of (List.mem_of_getElem? (i := 347) rfl) rfl
theorem wc_X4_fill : Cond.code yX4_fill cX4_fill 3 none ∈ TB := tb_of (List.mem_of_getElem? (i := 348) rfl) rfl
theorem wm_L_27 : Cond.methodLink RL 27 yX7_follow ∈ TB := tb_of (List.mem_of_getElem? (i := 349) rfl) rfl
theorem wi_X7_follow : Cond.instanceMethod yX7_follow ∈ TB := tb_of (List.mem_of_getElem? (i := 350) rfl) rfl
set_option maxRecDepth 20000 in
theorem ws_X7_follow : Cond.selects RX7 yX7_follow yX7_follow ∈ TB := tb_of (List.mem_of_getElem? (i := 351) rfl) rfl
set_option maxRecDepth 20000 in
theorem wc_X7_follow : Cond.code yX7_follow cX7_follow 5 (some .int) ∈ TB := tb_of (List.mem_of_getElem? (i := 352) rfl) rfl
set_option maxRecDepth 20000 in
theorem wm_X7_117 : Cond.methodLink RX7 117 yX5_tellPair ∈ TB := tb_of (List.mem_of_getElem? (i := 353) rfl) rfl
set_option maxRecDepth 20000 in
theorem wi_X5_tellPair : Cond.instanceMethod yX5_tellPair ∈ TB := tb_of (List.mem_of_getElem? (i := 354) rfl) rfl
set_option maxRecDepth 20000 in
theorem ws_X5_tellPair : Cond.selects RX5 yX5_tellPair yX5_tellPair ∈ TB := tb_of (List.mem_of_getElem? (i := 355) rfl) rfl
set_option maxRecDepth 20000 in
theorem wc_X5_tellPair : Cond.code yX5_tellPair cX5_tellPair 5 none ∈ TB := tb_of (List.mem_of_getElem? (i := 356) rfl) rfl
set_option maxRecDepth 20000 in
theorem wm_L_32 : Cond.methodLink RL 32 yX7_grace ∈ TB := tb_of (List.mem_of_getElem? (i := 357) rfl) rfl
set_option maxRecDepth 20000 in
theorem wi_X7_grace : Cond.instanceMethod yX7_grace ∈ TB := tb_of (List.mem_of_getElem? (i := 358) rfl) rfl
set_option maxRecDepth 20000 in
theorem ws_X7_grace : Cond.selects RX7 yX7_grace yX7_grace ∈ TB := tb_of (List.mem_of_getElem? (i := 359) rfl) rfl
set_option maxRecDepth 20000 in
theorem wc_X7_grace : Cond.code yX7_grace cX7_grace 3 (some .int) ∈ TB := tb_of (List.mem_of_getElem? (i := 360) rfl) rfl
set_option maxRecDepth 20000 in
theorem wm_X7_124 : Cond.methodLink RX7 124 yX7_exchange ∈ TB := tb_of (List.mem_of_getElem? (i := 361) rfl) rfl
set_option maxRecDepth 20000 in
theorem wt_X7_exchange : Cond.static yX7_exchange ∈ TB := tb_of (List.mem_of_getElem? (i := 362) rfl) rfl
set_option maxRecDepth 20000 in
theorem wc_X7_exchange : Cond.code yX7_exchange cX7_exchange 4 (some .int) ∈ TB := tb_of (List.mem_of_getElem? (i := 363) rfl) rfl
set_option maxRecDepth 20000 in
theorem wm_L_37 : Cond.methodLink RL 37 yX7_rate ∈ TB := tb_of (List.mem_of_getElem? (i := 364) rfl) rfl
set_option maxRecDepth 20000 in
theorem wi_X7_rate : Cond.instanceMethod yX7_rate ∈ TB := tb_of (List.mem_of_getElem? (i := 365) rfl) rfl
set_option maxRecDepth 20000 in
theorem ws_X7_rate : Cond.selects RX7 yX7_rate yX7_rate ∈ TB := tb_of (List.mem_of_getElem? (i := 366) rfl) rfl
set_option maxRecDepth 20000 in
theorem wc_X7_rate : Cond.code yX7_rate cX7_rate 3 (some .int) ∈ TB := tb_of (List.mem_of_getElem? (i := 367) rfl) rfl
set_option maxRecDepth 20000 in
theorem wm_L_41 : Cond.methodLink RL 41 yX7_price ∈ TB := tb_of (List.mem_of_getElem? (i := 368) rfl) rfl
set_option maxRecDepth 20000 in
theorem wi_X7_price : Cond.instanceMethod yX7_price ∈ TB := tb_of (List.mem_of_getElem? (i := 369) rfl) rfl
set_option maxRecDepth 20000 in
theorem ws_X7_price : Cond.selects RX7 yX7_price yX7_price ∈ TB := tb_of (List.mem_of_getElem? (i := 370) rfl) rfl
set_option maxRecDepth 20000 in
theorem wc_X7_price : Cond.code yX7_price cX7_price 3 (some .int) ∈ TB := tb_of (List.mem_of_getElem? (i := 371) rfl) rfl
set_option maxRecDepth 20000 in
theorem wm_L_45 : Cond.methodLink RL 45 yX7_wish ∈ TB := tb_of (List.mem_of_getElem? (i := 372) rfl) rfl
set_option maxRecDepth 20000 in
theorem wi_X7_wish : Cond.instanceMethod yX7_wish ∈ TB := tb_of (List.mem_of_getElem? (i := 373) rfl) rfl
set_option maxRecDepth 20000 in
theorem ws_X7_wish : Cond.selects RX7 yX7_wish yX7_wish ∈ TB := tb_of (List.mem_of_getElem? (i := 374) rfl) rfl
set_option maxRecDepth 20000 in
theorem wc_X7_wish : Cond.code yX7_wish cX7_wish 6 (some .int) ∈ TB := tb_of (List.mem_of_getElem? (i := 375) rfl) rfl
set_option maxRecDepth 20000 in
theorem wm_X7_134 : Cond.methodLink RX7 134 yX7_hasTank ∈ TB := tb_of (List.mem_of_getElem? (i := 376) rfl) rfl
set_option maxRecDepth 20000 in
theorem wi_X7_hasTank : Cond.instanceMethod yX7_hasTank ∈ TB := tb_of (List.mem_of_getElem? (i := 378) rfl) rfl
set_option maxRecDepth 20000 in
theorem wc_X7_hasTank : Cond.code yX7_hasTank cX7_hasTank 3 (some .boolean) ∈ TB := tb_of (List.mem_of_getElem? (i := 379) rfl) rfl
set_option maxRecDepth 20000 in
theorem wv_X7_138 : Cond.constant RX7 138 100000 ∈ TB := tb_of (List.mem_of_getElem? (i := 380) rfl) rfl
set_option maxRecDepth 20000 in
theorem wm_X7_145 : Cond.methodLink RX7 145 yX6_tell ∈ TB := tb_of (List.mem_of_getElem? (i := 381) rfl) rfl
set_option maxRecDepth 20000 in
theorem wi_X6_tell : Cond.instanceMethod yX6_tell ∈ TB := tb_of (List.mem_of_getElem? (i := 382) rfl) rfl
set_option maxRecDepth 20000 in
theorem ws_X6_tell : Cond.selects RX6 yX6_tell yX6_tell ∈ TB := tb_of (List.mem_of_getElem? (i := 383) rfl) rfl
set_option maxRecDepth 20000 in
theorem wc_X6_tell : Cond.code yX6_tell cX6_tell 6 (some .int) ∈ TB := tb_of (List.mem_of_getElem? (i := 384) rfl) rfl
set_option maxRecDepth 20000 in
theorem wm_L_49 : Cond.methodLink RL 49 yX7_push ∈ TB := tb_of (List.mem_of_getElem? (i := 385) rfl) rfl
set_option maxRecDepth 20000 in
theorem wi_X7_push : Cond.instanceMethod yX7_push ∈ TB := tb_of (List.mem_of_getElem? (i := 386) rfl) rfl
set_option maxRecDepth 20000 in
theorem ws_X7_push : Cond.selects RX7 yX7_push yX7_push ∈ TB := tb_of (List.mem_of_getElem? (i := 387) rfl) rfl
set_option maxRecDepth 20000 in
theorem wc_X7_push : Cond.code yX7_push cX7_push 6 (some .int) ∈ TB := tb_of (List.mem_of_getElem? (i := 388) rfl) rfl
set_option maxRecDepth 20000 in
theorem wm_X7_149 : Cond.methodLink RX7 149 yX7_attempt ∈ TB := tb_of (List.mem_of_getElem? (i := 389) rfl) rfl
set_option maxRecDepth 20000 in
theorem wi_X7_attempt : Cond.instanceMethod yX7_attempt ∈ TB := tb_of (List.mem_of_getElem? (i := 391) rfl) rfl
set_option maxRecDepth 20000 in
theorem wc_X7_attempt : Cond.code yX7_attempt cX7_attempt 7 (some .int) ∈ TB := tb_of (List.mem_of_getElem? (i := 392) rfl) rfl
set_option maxRecDepth 20000 in
theorem wm_X7_152 : Cond.methodLink RX7 152 yX7_earlierAt ∈ TB := tb_of (List.mem_of_getElem? (i := 393) rfl) rfl
set_option maxRecDepth 20000 in
theorem wi_X7_earlierAt : Cond.instanceMethod yX7_earlierAt ∈ TB := tb_of (List.mem_of_getElem? (i := 395) rfl) rfl
set_option maxRecDepth 20000 in
theorem wc_X7_earlierAt : Cond.code yX7_earlierAt cX7_earlierAt 3 (some (.object "OilLine$Moment")) ∈ TB := tb_of (List.mem_of_getElem? (i := 396) rfl) rfl
set_option maxRecDepth 20000 in
theorem wm_X7_258 : Cond.methodLink RX7 258 Lib.Math.min.name ∈ TB := tb_of (List.mem_of_getElem? (i := 397) rfl) rfl
set_option maxRecDepth 20000 in
theorem wt_min : Cond.static Lib.Math.min.name ∈ TB := tb_of (List.mem_of_getElem? (i := 398) rfl) rfl
set_option maxRecDepth 20000 in
theorem wc_min : Cond.code Lib.Math.min.name Lib.Math.min.code 2 (some .int) ∈ TB := tb_of (List.mem_of_getElem? (i := 399) rfl) rfl
set_option maxRecDepth 20000 in
theorem wm_X7_263 : Cond.methodLink RX7 263 Lib.Math.max.name ∈ TB := tb_of (List.mem_of_getElem? (i := 400) rfl) rfl
set_option maxRecDepth 20000 in
theorem wt_max : Cond.static Lib.Math.max.name ∈ TB := tb_of (List.mem_of_getElem? (i := 401) rfl) rfl
set_option maxRecDepth 20000 in
theorem wc_max : Cond.code Lib.Math.max.name Lib.Math.max.code 2 (some .int) ∈ TB := tb_of (List.mem_of_getElem? (i := 402) rfl) rfl
set_option maxRecDepth 20000 in
theorem wm_X7_156 : Cond.methodLink RX7 156 yX1_copyFrom ∈ TB := tb_of (List.mem_of_getElem? (i := 403) rfl) rfl
set_option maxRecDepth 20000 in
theorem wi_X1_copyFrom : Cond.instanceMethod yX1_copyFrom ∈ TB := tb_of (List.mem_of_getElem? (i := 404) rfl) rfl
set_option maxRecDepth 20000 in
theorem ws_X1_copyFrom : Cond.selects RX1 yX1_copyFrom yX1_copyFrom ∈ TB := tb_of (List.mem_of_getElem? (i := 405) rfl) rfl
set_option maxRecDepth 20000 in
theorem wc_X1_copyFrom : Cond.code yX1_copyFrom cX1_copyFrom 2 none ∈ TB := tb_of (List.mem_of_getElem? (i := 406) rfl) rfl
set_option maxRecDepth 20000 in
theorem wm_X1_49 : Cond.methodLink RX1 49 yX2_copyFrom ∈ TB := tb_of (List.mem_of_getElem? (i := 407) rfl) rfl
set_option maxRecDepth 20000 in
theorem wi_X2_copyFrom : Cond.instanceMethod yX2_copyFrom ∈ TB := tb_of (List.mem_of_getElem? (i := 408) rfl) rfl
set_option maxRecDepth 20000 in
theorem ws_X2_copyFrom : Cond.selects RX2 yX2_copyFrom yX2_copyFrom ∈ TB := tb_of (List.mem_of_getElem? (i := 409) rfl) rfl
set_option maxRecDepth 20000 in
theorem wc_X2_copyFrom : Cond.code yX2_copyFrom cX2_copyFrom 2 none ∈ TB := tb_of (List.mem_of_getElem? (i := 410) rfl) rfl
set_option maxRecDepth 20000 in
theorem wm_X2_32 : Cond.methodLink RX2 32 arraycopyName ∈ TB := tb_of (List.mem_of_getElem? (i := 411) rfl) rfl
set_option maxRecDepth 20000 in
theorem wt_acp : Cond.static arraycopyName ∈ TB := tb_of (List.mem_of_getElem? (i := 412) rfl) rfl
set_option maxRecDepth 20000 in
theorem wa_acp : Cond.native arraycopyName ∈ TB := tb_of (List.mem_of_getElem? (i := 413) rfl) rfl
set_option maxRecDepth 20000 in
theorem wm_X1_53 : Cond.methodLink RX1 53 yX4_copyFrom ∈ TB := tb_of (List.mem_of_getElem? (i := 414) rfl) rfl
set_option maxRecDepth 20000 in
theorem wi_X4_copyFrom : Cond.instanceMethod yX4_copyFrom ∈ TB := tb_of (List.mem_of_getElem? (i := 415) rfl) rfl
set_option maxRecDepth 20000 in
theorem ws_X4_copyFrom : Cond.selects RX4 yX4_copyFrom yX4_copyFrom ∈ TB := tb_of (List.mem_of_getElem? (i := 416) rfl) rfl
set_option maxRecDepth 20000 in
theorem wc_X4_copyFrom : Cond.code yX4_copyFrom cX4_copyFrom 2 none ∈ TB := tb_of (List.mem_of_getElem? (i := 417) rfl) rfl
set_option maxRecDepth 20000 in
theorem wm_X4_30 : Cond.methodLink RX4 30 arraycopyName ∈ TB := tb_of (List.mem_of_getElem? (i := 418) rfl) rfl
set_option maxRecDepth 20000 in
theorem wm_X1_56 : Cond.methodLink RX1 56 arraycopyName ∈ TB := tb_of (List.mem_of_getElem? (i := 419) rfl) rfl
set_option maxRecDepth 20000 in
theorem wm_X7_236 : Cond.methodLink RX7 236 yX3_set ∈ TB := tb_of (List.mem_of_getElem? (i := 420) rfl) rfl
set_option maxRecDepth 20000 in
theorem wi_X3_set : Cond.instanceMethod yX3_set ∈ TB := tb_of (List.mem_of_getElem? (i := 421) rfl) rfl
set_option maxRecDepth 20000 in
theorem ws_X3_set : Cond.selects RX3 yX3_set yX3_set ∈ TB := tb_of (List.mem_of_getElem? (i := 422) rfl) rfl
set_option maxRecDepth 20000 in
theorem wc_X3_set : Cond.code yX3_set cX3_set 5 none ∈ TB := tb_of (List.mem_of_getElem? (i := 423) rfl) rfl
set_option maxRecDepth 20000 in
theorem wN_X3_25 : Cond.methodLinkNest RX3 25 yX7_tankNumber "OilLine" ∈ lw_tbl := List.mem_of_getElem? (i := 424) rfl
set_option maxRecDepth 20000 in
theorem wm_X7_240 : Cond.methodLink RX7 240 yX1_flow ∈ TB := tb_of (List.mem_of_getElem? (i := 425) rfl) rfl
set_option maxRecDepth 20000 in
theorem wi_X1_flow : Cond.instanceMethod yX1_flow ∈ TB := tb_of (List.mem_of_getElem? (i := 426) rfl) rfl
set_option maxRecDepth 20000 in
theorem ws_X1_flow : Cond.selects RX1 yX1_flow yX1_flow ∈ TB := tb_of (List.mem_of_getElem? (i := 427) rfl) rfl
set_option maxRecDepth 20000 in
theorem wc_X1_flow : Cond.code yX1_flow cX1_flow 7 (some .int) ∈ TB := tb_of (List.mem_of_getElem? (i := 428) rfl) rfl
set_option maxRecDepth 20000 in
theorem wm_X1_62 : Cond.methodLink RX1 62 yX1_step ∈ TB := tb_of (List.mem_of_getElem? (i := 429) rfl) rfl
set_option maxRecDepth 20000 in
theorem wi_X1_step : Cond.instanceMethod yX1_step ∈ TB := tb_of (List.mem_of_getElem? (i := 431) rfl) rfl
set_option maxRecDepth 20000 in
theorem wc_X1_step : Cond.code yX1_step cX1_step 8 (some .int) ∈ TB := tb_of (List.mem_of_getElem? (i := 432) rfl) rfl
set_option maxRecDepth 20000 in
theorem wm_X1_89 : Cond.methodLink RX1 89 yX1_sinkFor ∈ TB := tb_of (List.mem_of_getElem? (i := 433) rfl) rfl
set_option maxRecDepth 20000 in
theorem wi_X1_sinkFor : Cond.instanceMethod yX1_sinkFor ∈ TB := tb_of (List.mem_of_getElem? (i := 435) rfl) rfl
set_option maxRecDepth 20000 in
theorem wc_X1_sinkFor : Cond.code yX1_sinkFor cX1_sinkFor 7 (some .int) ∈ TB := tb_of (List.mem_of_getElem? (i := 436) rfl) rfl
set_option maxRecDepth 20000 in
theorem wN_X1_141 : Cond.methodLinkNest RX1 141 yX7_tankNumber "OilLine" ∈ lw_tbl := List.mem_of_getElem? (i := 437) rfl
set_option maxRecDepth 20000 in
theorem wm_X1_130 : Cond.methodLink RX1 130 yX2_isPure ∈ TB := tb_of (List.mem_of_getElem? (i := 438) rfl) rfl
set_option maxRecDepth 20000 in
theorem wi_X2_isPure : Cond.instanceMethod yX2_isPure ∈ TB := tb_of (List.mem_of_getElem? (i := 439) rfl) rfl
set_option maxRecDepth 20000 in
theorem ws_X2_isPure : Cond.selects RX2 yX2_isPure yX2_isPure ∈ TB := tb_of (List.mem_of_getElem? (i := 440) rfl) rfl
set_option maxRecDepth 20000 in
theorem wc_X2_isPure : Cond.code yX2_isPure cX2_isPure 2 (some .boolean) ∈ TB := tb_of (List.mem_of_getElem? (i := 441) rfl) rfl
set_option maxRecDepth 20000 in
theorem wm_X1_150 : Cond.methodLink RX1 150 yX4_bearsForeign ∈ TB := tb_of (List.mem_of_getElem? (i := 442) rfl) rfl
set_option maxRecDepth 20000 in
theorem wi_X4_bearsForeign : Cond.instanceMethod yX4_bearsForeign ∈ TB := tb_of (List.mem_of_getElem? (i := 443) rfl) rfl
set_option maxRecDepth 20000 in
theorem ws_X4_bearsForeign : Cond.selects RX4 yX4_bearsForeign yX4_bearsForeign ∈ TB := tb_of (List.mem_of_getElem? (i := 444) rfl) rfl
set_option maxRecDepth 20000 in
theorem wc_X4_bearsForeign : Cond.code yX4_bearsForeign cX4_bearsForeign 3 (some .boolean) ∈ TB := tb_of (List.mem_of_getElem? (i := 445) rfl) rfl
set_option maxRecDepth 20000 in
theorem wm_X1_96 : Cond.methodLink RX1 96 yX1_letOut ∈ TB := tb_of (List.mem_of_getElem? (i := 446) rfl) rfl
set_option maxRecDepth 20000 in
theorem wi_X1_letOut : Cond.instanceMethod yX1_letOut ∈ TB := tb_of (List.mem_of_getElem? (i := 448) rfl) rfl
set_option maxRecDepth 20000 in
theorem wc_X1_letOut : Cond.code yX1_letOut cX1_letOut 4 none ∈ TB := tb_of (List.mem_of_getElem? (i := 449) rfl) rfl
set_option maxRecDepth 20000 in
theorem wm_X1_134 : Cond.methodLink RX1 134 yX4_putOne ∈ TB := tb_of (List.mem_of_getElem? (i := 450) rfl) rfl
set_option maxRecDepth 20000 in
theorem wi_X4_putOne : Cond.instanceMethod yX4_putOne ∈ TB := tb_of (List.mem_of_getElem? (i := 451) rfl) rfl
set_option maxRecDepth 20000 in
theorem ws_X4_putOne : Cond.selects RX4 yX4_putOne yX4_putOne ∈ TB := tb_of (List.mem_of_getElem? (i := 452) rfl) rfl
set_option maxRecDepth 20000 in
theorem wc_X4_putOne : Cond.code yX4_putOne cX4_putOne 3 none ∈ TB := tb_of (List.mem_of_getElem? (i := 453) rfl) rfl
set_option maxRecDepth 20000 in
theorem wm_X1_103 : Cond.methodLink RX1 103 yX2_moveOn ∈ TB := tb_of (List.mem_of_getElem? (i := 454) rfl) rfl
set_option maxRecDepth 20000 in
theorem wi_X2_moveOn : Cond.instanceMethod yX2_moveOn ∈ TB := tb_of (List.mem_of_getElem? (i := 455) rfl) rfl
set_option maxRecDepth 20000 in
theorem ws_X2_moveOn : Cond.selects RX2 yX2_moveOn yX2_moveOn ∈ TB := tb_of (List.mem_of_getElem? (i := 456) rfl) rfl
set_option maxRecDepth 20000 in
theorem wc_X2_moveOn : Cond.code yX2_moveOn cX2_moveOn 4 none ∈ TB := tb_of (List.mem_of_getElem? (i := 457) rfl) rfl
set_option maxRecDepth 20000 in
theorem wm_X1_110 : Cond.methodLink RX1 110 yX2_put ∈ TB := tb_of (List.mem_of_getElem? (i := 458) rfl) rfl
set_option maxRecDepth 20000 in
theorem wm_X1_113 : Cond.methodLink RX1 113 yX4_takeOne ∈ TB := tb_of (List.mem_of_getElem? (i := 459) rfl) rfl
set_option maxRecDepth 20000 in
theorem wi_X4_takeOne : Cond.instanceMethod yX4_takeOne ∈ TB := tb_of (List.mem_of_getElem? (i := 460) rfl) rfl
set_option maxRecDepth 20000 in
theorem ws_X4_takeOne : Cond.selects RX4 yX4_takeOne yX4_takeOne ∈ TB := tb_of (List.mem_of_getElem? (i := 461) rfl) rfl
set_option maxRecDepth 20000 in
theorem wc_X4_takeOne : Cond.code yX4_takeOne cX4_takeOne 2 none ∈ TB := tb_of (List.mem_of_getElem? (i := 462) rfl) rfl
set_option maxRecDepth 20000 in
theorem wm_X4_36 : Cond.methodLink RX4 36 Lib.Math.min.name ∈ TB := tb_of (List.mem_of_getElem? (i := 463) rfl) rfl
set_option maxRecDepth 20000 in
theorem wm_X1_116 : Cond.methodLink RX1 116 yX2_mixBorders ∈ TB := tb_of (List.mem_of_getElem? (i := 464) rfl) rfl
set_option maxRecDepth 20000 in
theorem wi_X2_mixBorders : Cond.instanceMethod yX2_mixBorders ∈ TB := tb_of (List.mem_of_getElem? (i := 465) rfl) rfl
set_option maxRecDepth 20000 in
theorem ws_X2_mixBorders : Cond.selects RX2 yX2_mixBorders yX2_mixBorders ∈ TB := tb_of (List.mem_of_getElem? (i := 466) rfl) rfl
set_option maxRecDepth 20000 in
theorem wc_X2_mixBorders : Cond.code yX2_mixBorders cX2_mixBorders 7 none ∈ TB := tb_of (List.mem_of_getElem? (i := 467) rfl) rfl
set_option maxRecDepth 20000 in
theorem wm_X2_38 : Cond.methodLink RX2 38 yX2_isPure ∈ TB := tb_of (List.mem_of_getElem? (i := 468) rfl) rfl
set_option maxRecDepth 20000 in
theorem wm_X2_49 : Cond.methodLink RX2 49 yX2_farSide ∈ TB := tb_of (List.mem_of_getElem? (i := 469) rfl) rfl
set_option maxRecDepth 20000 in
theorem wi_X2_farSide : Cond.instanceMethod yX2_farSide ∈ TB := tb_of (List.mem_of_getElem? (i := 471) rfl) rfl
set_option maxRecDepth 20000 in
theorem wc_X2_farSide : Cond.code yX2_farSide cX2_farSide 5 (some .int) ∈ TB := tb_of (List.mem_of_getElem? (i := 472) rfl) rfl
set_option maxRecDepth 20000 in
theorem wm_X2_56 : Cond.methodLink RX2 56 yX5_mixOf ∈ TB := tb_of (List.mem_of_getElem? (i := 473) rfl) rfl
set_option maxRecDepth 20000 in
theorem wi_X5_mixOf : Cond.instanceMethod yX5_mixOf ∈ TB := tb_of (List.mem_of_getElem? (i := 474) rfl) rfl
set_option maxRecDepth 20000 in
theorem ws_X5_mixOf : Cond.selects RX5 yX5_mixOf yX5_mixOf ∈ TB := tb_of (List.mem_of_getElem? (i := 475) rfl) rfl
set_option maxRecDepth 20000 in
theorem wc_X5_mixOf : Cond.code yX5_mixOf cX5_mixOf 3 (some .int) ∈ TB := tb_of (List.mem_of_getElem? (i := 476) rfl) rfl
set_option maxRecDepth 20000 in
theorem wm_X2_62 : Cond.methodLink RX2 62 yX2_hindIsNext ∈ TB := tb_of (List.mem_of_getElem? (i := 477) rfl) rfl
set_option maxRecDepth 20000 in
theorem wi_X2_hindIsNext : Cond.instanceMethod yX2_hindIsNext ∈ TB := tb_of (List.mem_of_getElem? (i := 479) rfl) rfl
set_option maxRecDepth 20000 in
theorem wc_X2_hindIsNext : Cond.code yX2_hindIsNext cX2_hindIsNext 4 (some .boolean) ∈ TB := tb_of (List.mem_of_getElem? (i := 480) rfl) rfl
set_option maxRecDepth 20000 in
theorem wm_X2_53 : Cond.methodLink RX2 53 yX2_mixOne ∈ TB := tb_of (List.mem_of_getElem? (i := 481) rfl) rfl
set_option maxRecDepth 20000 in
theorem wi_X2_mixOne : Cond.instanceMethod yX2_mixOne ∈ TB := tb_of (List.mem_of_getElem? (i := 483) rfl) rfl
set_option maxRecDepth 20000 in
theorem wc_X2_mixOne : Cond.code yX2_mixOne cX2_mixOne 8 none ∈ TB := tb_of (List.mem_of_getElem? (i := 484) rfl) rfl
set_option maxRecDepth 20000 in
theorem wm_X1_120 : Cond.methodLink RX1 120 yX2_clashesAt ∈ TB := tb_of (List.mem_of_getElem? (i := 485) rfl) rfl
set_option maxRecDepth 20000 in
theorem wi_X2_clashesAt : Cond.instanceMethod yX2_clashesAt ∈ TB := tb_of (List.mem_of_getElem? (i := 486) rfl) rfl
set_option maxRecDepth 20000 in
theorem ws_X2_clashesAt : Cond.selects RX2 yX2_clashesAt yX2_clashesAt ∈ TB := tb_of (List.mem_of_getElem? (i := 487) rfl) rfl
set_option maxRecDepth 20000 in
theorem wc_X2_clashesAt : Cond.code yX2_clashesAt cX2_clashesAt 5 (some .boolean) ∈ TB := tb_of (List.mem_of_getElem? (i := 488) rfl) rfl
set_option maxRecDepth 20000 in
theorem wm_X2_42 : Cond.methodLink RX2 42 yX2_neighbourToBegin ∈ TB := tb_of (List.mem_of_getElem? (i := 489) rfl) rfl
set_option maxRecDepth 20000 in
theorem wi_X2_neighbourToBegin : Cond.instanceMethod yX2_neighbourToBegin ∈ TB := tb_of (List.mem_of_getElem? (i := 490) rfl) rfl
set_option maxRecDepth 20000 in
theorem ws_X2_neighbourToBegin : Cond.selects RX2 yX2_neighbourToBegin yX2_neighbourToBegin ∈ TB := tb_of (List.mem_of_getElem? (i := 491) rfl) rfl
set_option maxRecDepth 20000 in
theorem wc_X2_neighbourToBegin : Cond.code yX2_neighbourToBegin cX2_neighbourToBegin 3 (some .int) ∈ TB := tb_of (List.mem_of_getElem? (i := 492) rfl) rfl
set_option maxRecDepth 20000 in
theorem wm_X2_66 : Cond.methodLink RX2 66 yX2_neighbourToEnd ∈ TB := tb_of (List.mem_of_getElem? (i := 493) rfl) rfl
set_option maxRecDepth 20000 in
theorem wi_X2_neighbourToEnd : Cond.instanceMethod yX2_neighbourToEnd ∈ TB := tb_of (List.mem_of_getElem? (i := 494) rfl) rfl
set_option maxRecDepth 20000 in
theorem ws_X2_neighbourToEnd : Cond.selects RX2 yX2_neighbourToEnd yX2_neighbourToEnd ∈ TB := tb_of (List.mem_of_getElem? (i := 495) rfl) rfl
set_option maxRecDepth 20000 in
theorem wc_X2_neighbourToEnd : Cond.code yX2_neighbourToEnd cX2_neighbourToEnd 3 (some .int) ∈ TB := tb_of (List.mem_of_getElem? (i := 496) rfl) rfl
set_option maxRecDepth 20000 in
theorem wm_X2_69 : Cond.methodLink RX2 69 yX2_clash ∈ TB := tb_of (List.mem_of_getElem? (i := 497) rfl) rfl
set_option maxRecDepth 20000 in
theorem wi_X2_clash : Cond.instanceMethod yX2_clash ∈ TB := tb_of (List.mem_of_getElem? (i := 499) rfl) rfl
set_option maxRecDepth 20000 in
theorem wc_X2_clash : Cond.code yX2_clash cX2_clash 4 (some .boolean) ∈ TB := tb_of (List.mem_of_getElem? (i := 500) rfl) rfl
set_option maxRecDepth 20000 in
theorem wm_X2_73 : Cond.methodLink RX2 73 yX5_mayFollow ∈ TB := tb_of (List.mem_of_getElem? (i := 501) rfl) rfl
set_option maxRecDepth 20000 in
theorem wi_X5_mayFollow : Cond.instanceMethod yX5_mayFollow ∈ TB := tb_of (List.mem_of_getElem? (i := 502) rfl) rfl
set_option maxRecDepth 20000 in
theorem ws_X5_mayFollow : Cond.selects RX5 yX5_mayFollow yX5_mayFollow ∈ TB := tb_of (List.mem_of_getElem? (i := 503) rfl) rfl
set_option maxRecDepth 20000 in
theorem wc_X5_mayFollow : Cond.code yX5_mayFollow cX5_mayFollow 3 (some .boolean) ∈ TB := tb_of (List.mem_of_getElem? (i := 504) rfl) rfl
set_option maxRecDepth 20000 in
theorem wm_X7_244 : Cond.methodLink RX7 244 yX7_hoursFor ∈ TB := tb_of (List.mem_of_getElem? (i := 505) rfl) rfl
set_option maxRecDepth 20000 in
theorem wi_X7_hoursFor : Cond.instanceMethod yX7_hoursFor ∈ TB := tb_of (List.mem_of_getElem? (i := 507) rfl) rfl
set_option maxRecDepth 20000 in
theorem wc_X7_hoursFor : Cond.code yX7_hoursFor cX7_hoursFor 5 (some .int) ∈ TB := tb_of (List.mem_of_getElem? (i := 508) rfl) rfl
set_option maxRecDepth 20000 in
theorem wm_X7_248 : Cond.methodLink RX7 248 yX1_pass ∈ TB := tb_of (List.mem_of_getElem? (i := 509) rfl) rfl
set_option maxRecDepth 20000 in
theorem wi_X1_pass : Cond.instanceMethod yX1_pass ∈ TB := tb_of (List.mem_of_getElem? (i := 510) rfl) rfl
set_option maxRecDepth 20000 in
theorem ws_X1_pass : Cond.selects RX1 yX1_pass yX1_pass ∈ TB := tb_of (List.mem_of_getElem? (i := 511) rfl) rfl
set_option maxRecDepth 20000 in
theorem wc_X1_pass : Cond.code yX1_pass cX1_pass 4 none ∈ TB := tb_of (List.mem_of_getElem? (i := 512) rfl) rfl
set_option maxRecDepth 20000 in
theorem wm_X1_157 : Cond.methodLink RX1 157 yX5_priceAt ∈ TB := tb_of (List.mem_of_getElem? (i := 513) rfl) rfl
set_option maxRecDepth 20000 in
theorem wi_X5_priceAt : Cond.instanceMethod yX5_priceAt ∈ TB := tb_of (List.mem_of_getElem? (i := 514) rfl) rfl
set_option maxRecDepth 20000 in
theorem ws_X5_priceAt : Cond.selects RX5 yX5_priceAt yX5_priceAt ∈ TB := tb_of (List.mem_of_getElem? (i := 515) rfl) rfl
set_option maxRecDepth 20000 in
theorem wc_X5_priceAt : Cond.code yX5_priceAt cX5_priceAt 2 (some .int) ∈ TB := tb_of (List.mem_of_getElem? (i := 516) rfl) rfl
set_option maxRecDepth 20000 in
theorem wm_X5_31 : Cond.methodLink RX5 31 yJ9_floorMod_7cf53 ∈ TB := tb_of (List.mem_of_getElem? (i := 517) rfl) rfl
set_option maxRecDepth 20000 in
theorem wt_J9_floorMod_7cf53 : Cond.static yJ9_floorMod_7cf53 ∈ TB := tb_of (List.mem_of_getElem? (i := 518) rfl) rfl
set_option maxRecDepth 20000 in
theorem wc_J9_floorMod_7cf53 : Cond.code yJ9_floorMod_7cf53 cJ9_floorMod_7cf53 3 (some .int) ∈ TB := tb_of (List.mem_of_getElem? (i := 519) rfl) rfl
set_option maxRecDepth 20000 in
theorem wm_X7_252 : Cond.methodLink RX7 252 yX6_keep ∈ TB := tb_of (List.mem_of_getElem? (i := 520) rfl) rfl
set_option maxRecDepth 20000 in
theorem wi_X6_keep : Cond.instanceMethod yX6_keep ∈ TB := tb_of (List.mem_of_getElem? (i := 521) rfl) rfl
set_option maxRecDepth 20000 in
theorem ws_X6_keep : Cond.selects RX6 yX6_keep yX6_keep ∈ TB := tb_of (List.mem_of_getElem? (i := 522) rfl) rfl
set_option maxRecDepth 20000 in
theorem wc_X6_keep : Cond.code yX6_keep cX6_keep 3 none ∈ TB := tb_of (List.mem_of_getElem? (i := 523) rfl) rfl
set_option maxRecDepth 20000 in
theorem wm_X6_48 : Cond.methodLink RX6 48 yX6_wanting ∈ TB := tb_of (List.mem_of_getElem? (i := 524) rfl) rfl
set_option maxRecDepth 20000 in
theorem wi_X6_wanting : Cond.instanceMethod yX6_wanting ∈ TB := tb_of (List.mem_of_getElem? (i := 525) rfl) rfl
set_option maxRecDepth 20000 in
theorem ws_X6_wanting : Cond.selects RX6 yX6_wanting yX6_wanting ∈ TB := tb_of (List.mem_of_getElem? (i := 526) rfl) rfl
set_option maxRecDepth 20000 in
theorem wc_X6_wanting : Cond.code yX6_wanting cX6_wanting 4 (some .int) ∈ TB := tb_of (List.mem_of_getElem? (i := 527) rfl) rfl
set_option maxRecDepth 20000 in
theorem wm_X6_33 : Cond.methodLink RX6 33 Lib.Math.max.name ∈ TB := tb_of (List.mem_of_getElem? (i := 528) rfl) rfl
set_option maxRecDepth 20000 in
theorem wm_X7_255 : Cond.methodLink RX7 255 yX7_register ∈ TB := tb_of (List.mem_of_getElem? (i := 529) rfl) rfl
set_option maxRecDepth 20000 in
theorem wi_X7_register : Cond.instanceMethod yX7_register ∈ TB := tb_of (List.mem_of_getElem? (i := 531) rfl) rfl
set_option maxRecDepth 20000 in
theorem wc_X7_register : Cond.code yX7_register cX7_register 4 (some .int) ∈ TB := tb_of (List.mem_of_getElem? (i := 532) rfl) rfl
set_option maxRecDepth 20000 in
theorem wm_L_53 : Cond.methodLink RL 53 yX7_trial ∈ TB := tb_of (List.mem_of_getElem? (i := 533) rfl) rfl
set_option maxRecDepth 20000 in
theorem wi_X7_trial : Cond.instanceMethod yX7_trial ∈ TB := tb_of (List.mem_of_getElem? (i := 534) rfl) rfl
set_option maxRecDepth 20000 in
theorem ws_X7_trial : Cond.selects RX7 yX7_trial yX7_trial ∈ TB := tb_of (List.mem_of_getElem? (i := 535) rfl) rfl
set_option maxRecDepth 20000 in
theorem wc_X7_trial : Cond.code yX7_trial cX7_trial 6 (some .int) ∈ TB := tb_of (List.mem_of_getElem? (i := 536) rfl) rfl
set_option maxRecDepth 20000 in
theorem wm_L_57 : Cond.methodLink RL 57 yX7_undo ∈ TB := tb_of (List.mem_of_getElem? (i := 537) rfl) rfl
set_option maxRecDepth 20000 in
theorem wi_X7_undo : Cond.instanceMethod yX7_undo ∈ TB := tb_of (List.mem_of_getElem? (i := 538) rfl) rfl
set_option maxRecDepth 20000 in
theorem ws_X7_undo : Cond.selects RX7 yX7_undo yX7_undo ∈ TB := tb_of (List.mem_of_getElem? (i := 539) rfl) rfl
set_option maxRecDepth 20000 in
theorem wc_X7_undo : Cond.code yX7_undo cX7_undo 1 (some .int) ∈ TB := tb_of (List.mem_of_getElem? (i := 540) rfl) rfl
set_option maxRecDepth 20000 in
theorem wm_L_62 : Cond.methodLink RL 62 yX7_wait ∈ TB := tb_of (List.mem_of_getElem? (i := 541) rfl) rfl
set_option maxRecDepth 20000 in
theorem wi_X7_wait : Cond.instanceMethod yX7_wait ∈ TB := tb_of (List.mem_of_getElem? (i := 542) rfl) rfl
set_option maxRecDepth 20000 in
theorem ws_X7_wait : Cond.selects RX7 yX7_wait yX7_wait ∈ TB := tb_of (List.mem_of_getElem? (i := 543) rfl) rfl
set_option maxRecDepth 20000 in
theorem wc_X7_wait : Cond.code yX7_wait cX7_wait 2 (some .int) ∈ TB := tb_of (List.mem_of_getElem? (i := 544) rfl) rfl
set_option maxRecDepth 20000 in
theorem wm_L_66 : Cond.methodLink RL 66 yX7_at ∈ TB := tb_of (List.mem_of_getElem? (i := 545) rfl) rfl
set_option maxRecDepth 20000 in
theorem wi_X7_at : Cond.instanceMethod yX7_at ∈ TB := tb_of (List.mem_of_getElem? (i := 546) rfl) rfl
set_option maxRecDepth 20000 in
theorem ws_X7_at : Cond.selects RX7 yX7_at yX7_at ∈ TB := tb_of (List.mem_of_getElem? (i := 547) rfl) rfl
set_option maxRecDepth 20000 in
theorem wc_X7_at : Cond.code yX7_at cX7_at 4 (some .int) ∈ TB := tb_of (List.mem_of_getElem? (i := 548) rfl) rfl
set_option maxRecDepth 20000 in
theorem wm_X7_175 : Cond.methodLink RX7 175 yX2_isBorder ∈ TB := tb_of (List.mem_of_getElem? (i := 549) rfl) rfl
set_option maxRecDepth 20000 in
theorem wi_X2_isBorder : Cond.instanceMethod yX2_isBorder ∈ TB := tb_of (List.mem_of_getElem? (i := 550) rfl) rfl
set_option maxRecDepth 20000 in
theorem ws_X2_isBorder : Cond.selects RX2 yX2_isBorder yX2_isBorder ∈ TB := tb_of (List.mem_of_getElem? (i := 551) rfl) rfl
set_option maxRecDepth 20000 in
theorem wc_X2_isBorder : Cond.code yX2_isBorder cX2_isBorder 3 (some .boolean) ∈ TB := tb_of (List.mem_of_getElem? (i := 552) rfl) rfl
set_option maxRecDepth 20000 in
theorem wm_L_70 : Cond.methodLink RL 70 yX7_batch ∈ TB := tb_of (List.mem_of_getElem? (i := 553) rfl) rfl
set_option maxRecDepth 20000 in
theorem wi_X7_batch : Cond.instanceMethod yX7_batch ∈ TB := tb_of (List.mem_of_getElem? (i := 554) rfl) rfl
set_option maxRecDepth 20000 in
theorem ws_X7_batch : Cond.selects RX7 yX7_batch yX7_batch ∈ TB := tb_of (List.mem_of_getElem? (i := 555) rfl) rfl
set_option maxRecDepth 20000 in
theorem wc_X7_batch : Cond.code yX7_batch cX7_batch 3 (some .int) ∈ TB := tb_of (List.mem_of_getElem? (i := 556) rfl) rfl
set_option maxRecDepth 20000 in
theorem wm_X7_181 : Cond.methodLink RX7 181 yX2_countOf ∈ TB := tb_of (List.mem_of_getElem? (i := 557) rfl) rfl
set_option maxRecDepth 20000 in
theorem wi_X2_countOf : Cond.instanceMethod yX2_countOf ∈ TB := tb_of (List.mem_of_getElem? (i := 558) rfl) rfl
set_option maxRecDepth 20000 in
theorem ws_X2_countOf : Cond.selects RX2 yX2_countOf yX2_countOf ∈ TB := tb_of (List.mem_of_getElem? (i := 559) rfl) rfl
set_option maxRecDepth 20000 in
theorem wc_X2_countOf : Cond.code yX2_countOf cX2_countOf 4 (some .int) ∈ TB := tb_of (List.mem_of_getElem? (i := 560) rfl) rfl
set_option maxRecDepth 20000 in
theorem wm_X7_184 : Cond.methodLink RX7 184 yX2_leastOf ∈ TB := tb_of (List.mem_of_getElem? (i := 561) rfl) rfl
set_option maxRecDepth 20000 in
theorem wi_X2_leastOf : Cond.instanceMethod yX2_leastOf ∈ TB := tb_of (List.mem_of_getElem? (i := 562) rfl) rfl
set_option maxRecDepth 20000 in
theorem ws_X2_leastOf : Cond.selects RX2 yX2_leastOf yX2_leastOf ∈ TB := tb_of (List.mem_of_getElem? (i := 563) rfl) rfl
set_option maxRecDepth 20000 in
theorem wc_X2_leastOf : Cond.code yX2_leastOf cX2_leastOf 3 (some .int) ∈ TB := tb_of (List.mem_of_getElem? (i := 564) rfl) rfl
set_option maxRecDepth 20000 in
theorem wm_X7_187 : Cond.methodLink RX7 187 yX2_greatestOf ∈ TB := tb_of (List.mem_of_getElem? (i := 565) rfl) rfl
set_option maxRecDepth 20000 in
theorem wi_X2_greatestOf : Cond.instanceMethod yX2_greatestOf ∈ TB := tb_of (List.mem_of_getElem? (i := 566) rfl) rfl
set_option maxRecDepth 20000 in
theorem ws_X2_greatestOf : Cond.selects RX2 yX2_greatestOf yX2_greatestOf ∈ TB := tb_of (List.mem_of_getElem? (i := 567) rfl) rfl
set_option maxRecDepth 20000 in
theorem wc_X2_greatestOf : Cond.code yX2_greatestOf cX2_greatestOf 3 (some .int) ∈ TB := tb_of (List.mem_of_getElem? (i := 568) rfl) rfl
set_option maxRecDepth 20000 in
theorem wm_L_74 : Cond.methodLink RL 74 yX7_tankOf ∈ TB := tb_of (List.mem_of_getElem? (i := 569) rfl) rfl
set_option maxRecDepth 20000 in
theorem wi_X7_tankOf : Cond.instanceMethod yX7_tankOf ∈ TB := tb_of (List.mem_of_getElem? (i := 570) rfl) rfl
set_option maxRecDepth 20000 in
theorem ws_X7_tankOf : Cond.selects RX7 yX7_tankOf yX7_tankOf ∈ TB := tb_of (List.mem_of_getElem? (i := 571) rfl) rfl
set_option maxRecDepth 20000 in
theorem wc_X7_tankOf : Cond.code yX7_tankOf cX7_tankOf 5 (some .int) ∈ TB := tb_of (List.mem_of_getElem? (i := 572) rfl) rfl
set_option maxRecDepth 20000 in
theorem wm_L_79 : Cond.methodLink RL 79 yX7_about ∈ TB := tb_of (List.mem_of_getElem? (i := 573) rfl) rfl
set_option maxRecDepth 20000 in
theorem wi_X7_about : Cond.instanceMethod yX7_about ∈ TB := tb_of (List.mem_of_getElem? (i := 574) rfl) rfl
set_option maxRecDepth 20000 in
theorem ws_X7_about : Cond.selects RX7 yX7_about yX7_about ∈ TB := tb_of (List.mem_of_getElem? (i := 575) rfl) rfl
set_option maxRecDepth 20000 in
theorem wc_X7_about : Cond.code yX7_about cX7_about 3 (some .int) ∈ TB := tb_of (List.mem_of_getElem? (i := 576) rfl) rfl
set_option maxRecDepth 20000 in
theorem wm_L_83 : Cond.methodLink RL 83 yX7_wished ∈ TB := tb_of (List.mem_of_getElem? (i := 577) rfl) rfl
set_option maxRecDepth 20000 in
theorem wi_X7_wished : Cond.instanceMethod yX7_wished ∈ TB := tb_of (List.mem_of_getElem? (i := 578) rfl) rfl
set_option maxRecDepth 20000 in
theorem ws_X7_wished : Cond.selects RX7 yX7_wished yX7_wished ∈ TB := tb_of (List.mem_of_getElem? (i := 579) rfl) rfl
set_option maxRecDepth 20000 in
theorem wc_X7_wished : Cond.code yX7_wished cX7_wished 3 (some .int) ∈ TB := tb_of (List.mem_of_getElem? (i := 580) rfl) rfl
set_option maxRecDepth 20000 in
theorem wm_X7_211 : Cond.methodLink RX7 211 yX6_lateBy ∈ TB := tb_of (List.mem_of_getElem? (i := 581) rfl) rfl
set_option maxRecDepth 20000 in
theorem wi_X6_lateBy : Cond.instanceMethod yX6_lateBy ∈ TB := tb_of (List.mem_of_getElem? (i := 582) rfl) rfl
set_option maxRecDepth 20000 in
theorem ws_X6_lateBy : Cond.selects RX6 yX6_lateBy yX6_lateBy ∈ TB := tb_of (List.mem_of_getElem? (i := 583) rfl) rfl
set_option maxRecDepth 20000 in
theorem wc_X6_lateBy : Cond.code yX6_lateBy cX6_lateBy 4 (some .int) ∈ TB := tb_of (List.mem_of_getElem? (i := 584) rfl) rfl
set_option maxRecDepth 20000 in
theorem wm_X7_215 : Cond.methodLink RX7 215 yX6_wanting ∈ TB := tb_of (List.mem_of_getElem? (i := 585) rfl) rfl
set_option maxRecDepth 20000 in
theorem wm_L_87 : Cond.methodLink RL 87 yX7_count ∈ TB := tb_of (List.mem_of_getElem? (i := 586) rfl) rfl
set_option maxRecDepth 20000 in
theorem wi_X7_count : Cond.instanceMethod yX7_count ∈ TB := tb_of (List.mem_of_getElem? (i := 587) rfl) rfl
set_option maxRecDepth 20000 in
theorem ws_X7_count : Cond.selects RX7 yX7_count yX7_count ∈ TB := tb_of (List.mem_of_getElem? (i := 588) rfl) rfl
set_option maxRecDepth 20000 in
theorem wc_X7_count : Cond.code yX7_count cX7_count 2 (some .int) ∈ TB := tb_of (List.mem_of_getElem? (i := 589) rfl) rfl
set_option maxRecDepth 20000 in
theorem wm_X7_222 : Cond.methodLink RX7 222 yX2_countMixed ∈ TB := tb_of (List.mem_of_getElem? (i := 590) rfl) rfl
set_option maxRecDepth 20000 in
theorem wi_X2_countMixed : Cond.instanceMethod yX2_countMixed ∈ TB := tb_of (List.mem_of_getElem? (i := 591) rfl) rfl
set_option maxRecDepth 20000 in
theorem ws_X2_countMixed : Cond.selects RX2 yX2_countMixed yX2_countMixed ∈ TB := tb_of (List.mem_of_getElem? (i := 592) rfl) rfl
set_option maxRecDepth 20000 in
theorem wc_X2_countMixed : Cond.code yX2_countMixed cX2_countMixed 3 (some .int) ∈ TB := tb_of (List.mem_of_getElem? (i := 593) rfl) rfl
set_option maxRecDepth 20000 in
theorem wm_X7_226 : Cond.methodLink RX7 226 yX4_slopOfAll ∈ TB := tb_of (List.mem_of_getElem? (i := 594) rfl) rfl
set_option maxRecDepth 20000 in
theorem wi_X4_slopOfAll : Cond.instanceMethod yX4_slopOfAll ∈ TB := tb_of (List.mem_of_getElem? (i := 595) rfl) rfl
set_option maxRecDepth 20000 in
theorem ws_X4_slopOfAll : Cond.selects RX4 yX4_slopOfAll yX4_slopOfAll ∈ TB := tb_of (List.mem_of_getElem? (i := 596) rfl) rfl
set_option maxRecDepth 20000 in
theorem wc_X4_slopOfAll : Cond.code yX4_slopOfAll cX4_slopOfAll 3 (some .int) ∈ TB := tb_of (List.mem_of_getElem? (i := 597) rfl) rfl
set_option maxRecDepth 20000 in
theorem wm_X7_229 : Cond.methodLink RX7 229 yX6_lateByAll ∈ TB := tb_of (List.mem_of_getElem? (i := 598) rfl) rfl
set_option maxRecDepth 20000 in
theorem wi_X6_lateByAll : Cond.instanceMethod yX6_lateByAll ∈ TB := tb_of (List.mem_of_getElem? (i := 599) rfl) rfl
set_option maxRecDepth 20000 in
theorem ws_X6_lateByAll : Cond.selects RX6 yX6_lateByAll yX6_lateByAll ∈ TB := tb_of (List.mem_of_getElem? (i := 600) rfl) rfl
set_option maxRecDepth 20000 in
theorem wc_X6_lateByAll : Cond.code yX6_lateByAll cX6_lateByAll 4 (some .int) ∈ TB := tb_of (List.mem_of_getElem? (i := 601) rfl) rfl
set_option maxRecDepth 20000 in
theorem wm_X6_55 : Cond.methodLink RX6 55 yX6_lateBy ∈ TB := tb_of (List.mem_of_getElem? (i := 602) rfl) rfl
set_option maxRecDepth 20000 in
theorem wm_L_91 : Cond.methodLink RL 91 yX7_borders ∈ TB := tb_of (List.mem_of_getElem? (i := 603) rfl) rfl
set_option maxRecDepth 20000 in
theorem wi_X7_borders : Cond.instanceMethod yX7_borders ∈ TB := tb_of (List.mem_of_getElem? (i := 604) rfl) rfl
set_option maxRecDepth 20000 in
theorem ws_X7_borders : Cond.selects RX7 yX7_borders yX7_borders ∈ TB := tb_of (List.mem_of_getElem? (i := 605) rfl) rfl
set_option maxRecDepth 20000 in
theorem wc_X7_borders : Cond.code yX7_borders cX7_borders 1 (some .int) ∈ TB := tb_of (List.mem_of_getElem? (i := 606) rfl) rfl
set_option maxRecDepth 20000 in
theorem wm_X7_233 : Cond.methodLink RX7 233 yX2_countBorders ∈ TB := tb_of (List.mem_of_getElem? (i := 607) rfl) rfl
set_option maxRecDepth 20000 in
theorem wi_X2_countBorders : Cond.instanceMethod yX2_countBorders ∈ TB := tb_of (List.mem_of_getElem? (i := 608) rfl) rfl
set_option maxRecDepth 20000 in
theorem ws_X2_countBorders : Cond.selects RX2 yX2_countBorders yX2_countBorders ∈ TB := tb_of (List.mem_of_getElem? (i := 609) rfl) rfl
set_option maxRecDepth 20000 in
theorem wc_X2_countBorders : Cond.code yX2_countBorders cX2_countBorders 3 (some .int) ∈ TB := tb_of (List.mem_of_getElem? (i := 610) rfl) rfl
set_option maxRecDepth 20000 in
theorem wm_X2_46 : Cond.methodLink RX2 46 yX2_isBorder ∈ TB := tb_of (List.mem_of_getElem? (i := 611) rfl) rfl
set_option maxRecDepth 20000 in
theorem wk_L_10 : Cond.classLink RL 10 RX8 ∈ TB := tb_of (List.mem_of_getElem? (i := 612) rfl) rfl
set_option maxRecDepth 20000 in
theorem wb_X8 : Cond.instantiable RX8 35 ∈ TB := tb_of (List.mem_of_getElem? (i := 613) rfl) rfl
set_option maxRecDepth 20000 in
theorem wm_L_12 : Cond.methodLink RL 12 yX8_init ∈ TB := tb_of (List.mem_of_getElem? (i := 614) rfl) rfl
set_option maxRecDepth 20000 in
theorem wi_X8_init : Cond.instanceMethod yX8_init ∈ TB := tb_of (List.mem_of_getElem? (i := 615) rfl) rfl
set_option maxRecDepth 20000 in
theorem wc_X8_init : Cond.code yX8_init cX8_init 2 none ∈ TB := tb_of (List.mem_of_getElem? (i := 616) rfl) rfl
set_option maxRecDepth 20000 in
theorem wm_X8_7 : Cond.methodLink RX8 7 objectInit ∈ TB := tb_of (List.mem_of_getElem? (i := 617) rfl) rfl
set_option maxRecDepth 20000 in
theorem wv_X8_96 : Cond.constant RX8 96 180900 ∈ TB := tb_of (List.mem_of_getElem? (i := 618) rfl) rfl
set_option maxRecDepth 20000 in
theorem wm_X8_100 : Cond.methodLink RX8 100 yX8_line ∈ TB := tb_of (List.mem_of_getElem? (i := 619) rfl) rfl
set_option maxRecDepth 20000 in
theorem wi_X8_line : Cond.instanceMethod yX8_line ∈ TB := tb_of (List.mem_of_getElem? (i := 620) rfl) rfl
set_option maxRecDepth 20000 in
theorem ws_X8_line : Cond.selects RX8 yX8_line yX8_line ∈ TB := tb_of (List.mem_of_getElem? (i := 621) rfl) rfl
set_option maxRecDepth 20000 in
theorem wc_X8_line : Cond.code yX8_line cX8_line 3 (some .int) ∈ TB := tb_of (List.mem_of_getElem? (i := 622) rfl) rfl
set_option maxRecDepth 20000 in
theorem wm_X8_104 : Cond.methodLink RX8 104 yX8_in ∈ TB := tb_of (List.mem_of_getElem? (i := 623) rfl) rfl
set_option maxRecDepth 20000 in
theorem wt_X8_in : Cond.static yX8_in ∈ TB := tb_of (List.mem_of_getElem? (i := 624) rfl) rfl
set_option maxRecDepth 20000 in
theorem wc_X8_in : Cond.code yX8_in cX8_in 3 (some .boolean) ∈ TB := tb_of (List.mem_of_getElem? (i := 625) rfl) rfl
set_option maxRecDepth 20000 in
theorem wf_X8_13 : Cond.fieldLink RX8 13 "OilLineModel" "measures" "I" ∈ TB := tb_of (List.mem_of_getElem? (i := 626) rfl) rfl
set_option maxRecDepth 20000 in
theorem wf_X8_16 : Cond.fieldLink RX8 16 "OilLineModel" "batch" "[I" ∈ TB := tb_of (List.mem_of_getElem? (i := 627) rfl) rfl
set_option maxRecDepth 20000 in
theorem wf_X8_20 : Cond.fieldLink RX8 20 "OilLineModel" "hind" "[I" ∈ TB := tb_of (List.mem_of_getElem? (i := 628) rfl) rfl
set_option maxRecDepth 20000 in
theorem wf_X8_23 : Cond.fieldLink RX8 23 "OilLineModel" "fore" "[I" ∈ TB := tb_of (List.mem_of_getElem? (i := 629) rfl) rfl
set_option maxRecDepth 20000 in
theorem wf_X8_26 : Cond.fieldLink RX8 26 "OilLineModel" "went" "[I" ∈ TB := tb_of (List.mem_of_getElem? (i := 630) rfl) rfl
set_option maxRecDepth 20000 in
theorem wf_X8_29 : Cond.fieldLink RX8 29 "OilLineModel" "batches" "I" ∈ TB := tb_of (List.mem_of_getElem? (i := 631) rfl) rfl
set_option maxRecDepth 20000 in
theorem wf_X8_32 : Cond.fieldLink RX8 32 "OilLineModel" "batchKind" "[I" ∈ TB := tb_of (List.mem_of_getElem? (i := 632) rfl) rfl
set_option maxRecDepth 20000 in
theorem wf_X8_35 : Cond.fieldLink RX8 35 "OilLineModel" "batchDoor" "[I" ∈ TB := tb_of (List.mem_of_getElem? (i := 633) rfl) rfl
set_option maxRecDepth 20000 in
theorem wf_X8_38 : Cond.fieldLink RX8 38 "OilLineModel" "batchOut" "[I" ∈ TB := tb_of (List.mem_of_getElem? (i := 634) rfl) rfl
set_option maxRecDepth 20000 in
theorem wf_X8_108 : Cond.fieldLink RX8 108 "OilLineModel" "doors" "I" ∈ TB := tb_of (List.mem_of_getElem? (i := 635) rfl) rfl
set_option maxRecDepth 20000 in
theorem wf_X8_41 : Cond.fieldLink RX8 41 "OilLineModel" "place" "[I" ∈ TB := tb_of (List.mem_of_getElem? (i := 636) rfl) rfl
set_option maxRecDepth 20000 in
theorem wf_X8_44 : Cond.fieldLink RX8 44 "OilLineModel" "rates" "[I" ∈ TB := tb_of (List.mem_of_getElem? (i := 637) rfl) rfl
set_option maxRecDepth 20000 in
theorem wf_X8_47 : Cond.fieldLink RX8 47 "OilLineModel" "slop" "[I" ∈ TB := tb_of (List.mem_of_getElem? (i := 638) rfl) rfl
set_option maxRecDepth 20000 in
theorem wf_X8_50 : Cond.fieldLink RX8 50 "OilLineModel" "hasTank" "[Z" ∈ TB := tb_of (List.mem_of_getElem? (i := 639) rfl) rfl
set_option maxRecDepth 20000 in
theorem wf_X8_54 : Cond.fieldLink RX8 54 "OilLineModel" "least" "[I" ∈ TB := tb_of (List.mem_of_getElem? (i := 640) rfl) rfl
set_option maxRecDepth 20000 in
theorem wf_X8_57 : Cond.fieldLink RX8 57 "OilLineModel" "most" "[I" ∈ TB := tb_of (List.mem_of_getElem? (i := 641) rfl) rfl
set_option maxRecDepth 20000 in
theorem wf_X8_60 : Cond.fieldLink RX8 60 "OilLineModel" "amount" "[I" ∈ TB := tb_of (List.mem_of_getElem? (i := 642) rfl) rfl
set_option maxRecDepth 20000 in
theorem wf_X8_63 : Cond.fieldLink RX8 63 "OilLineModel" "foreign" "[I" ∈ TB := tb_of (List.mem_of_getElem? (i := 643) rfl) rfl
set_option maxRecDepth 20000 in
theorem wf_X8_66 : Cond.fieldLink RX8 66 "OilLineModel" "came" "[I" ∈ TB := tb_of (List.mem_of_getElem? (i := 644) rfl) rfl
set_option maxRecDepth 20000 in
theorem wf_X8_69 : Cond.fieldLink RX8 69 "OilLineModel" "never" "[Z" ∈ TB := tb_of (List.mem_of_getElem? (i := 645) rfl) rfl
set_option maxRecDepth 20000 in
theorem wf_X8_72 : Cond.fieldLink RX8 72 "OilLineModel" "mix" "[I" ∈ TB := tb_of (List.mem_of_getElem? (i := 646) rfl) rfl
set_option maxRecDepth 20000 in
theorem wf_X8_75 : Cond.fieldLink RX8 75 "OilLineModel" "grace" "[I" ∈ TB := tb_of (List.mem_of_getElem? (i := 647) rfl) rfl
set_option maxRecDepth 20000 in
theorem wf_X8_78 : Cond.fieldLink RX8 78 "OilLineModel" "price" "[I" ∈ TB := tb_of (List.mem_of_getElem? (i := 648) rfl) rfl
set_option maxRecDepth 20000 in
theorem wf_X8_114 : Cond.fieldLink RX8 114 "OilLineModel" "time" "I" ∈ TB := tb_of (List.mem_of_getElem? (i := 649) rfl) rfl
set_option maxRecDepth 20000 in
theorem wf_X8_117 : Cond.fieldLink RX8 117 "OilLineModel" "cost" "I" ∈ TB := tb_of (List.mem_of_getElem? (i := 650) rfl) rfl
set_option maxRecDepth 20000 in
theorem wf_X8_111 : Cond.fieldLink RX8 111 "OilLineModel" "wishes" "I" ∈ TB := tb_of (List.mem_of_getElem? (i := 651) rfl) rfl
set_option maxRecDepth 20000 in
theorem wf_X8_81 : Cond.fieldLink RX8 81 "OilLineModel" "wishTank" "[I" ∈ TB := tb_of (List.mem_of_getElem? (i := 652) rfl) rfl
set_option maxRecDepth 20000 in
theorem wf_X8_84 : Cond.fieldLink RX8 84 "OilLineModel" "wishMany" "[I" ∈ TB := tb_of (List.mem_of_getElem? (i := 653) rfl) rfl
set_option maxRecDepth 20000 in
theorem wf_X8_87 : Cond.fieldLink RX8 87 "OilLineModel" "wishBy" "[I" ∈ TB := tb_of (List.mem_of_getElem? (i := 654) rfl) rfl
set_option maxRecDepth 20000 in
theorem wf_X8_90 : Cond.fieldLink RX8 90 "OilLineModel" "wishFrom" "[I" ∈ TB := tb_of (List.mem_of_getElem? (i := 655) rfl) rfl
set_option maxRecDepth 20000 in
theorem wf_X8_93 : Cond.fieldLink RX8 93 "OilLineModel" "keptAt" "[I" ∈ TB := tb_of (List.mem_of_getElem? (i := 656) rfl) rfl
set_option maxRecDepth 20000 in
theorem wf_X8_97 : Cond.fieldLink RX8 97 "OilLineModel" "book" "[I" ∈ TB := tb_of (List.mem_of_getElem? (i := 657) rfl) rfl
set_option maxRecDepth 20000 in
theorem wf_X8_120 : Cond.fieldLink RX8 120 "OilLineModel" "pages" "I" ∈ TB := tb_of (List.mem_of_getElem? (i := 658) rfl) rfl
set_option maxRecDepth 20000 in
theorem wf_X8_135 : Cond.fieldLink RX8 135 "OilLineModel" "at" "I" ∈ TB := tb_of (List.mem_of_getElem? (i := 659) rfl) rfl
set_option maxRecDepth 20000 in
theorem wm_L_17 : Cond.methodLink RL 17 yX8_line ∈ TB := tb_of (List.mem_of_getElem? (i := 731) rfl) rfl
set_option maxRecDepth 20000 in
theorem wm_L_21 : Cond.methodLink RL 21 yX8_door ∈ TB := tb_of (List.mem_of_getElem? (i := 732) rfl) rfl
set_option maxRecDepth 20000 in
theorem wi_X8_door : Cond.instanceMethod yX8_door ∈ TB := tb_of (List.mem_of_getElem? (i := 733) rfl) rfl
set_option maxRecDepth 20000 in
theorem ws_X8_door : Cond.selects RX8 yX8_door yX8_door ∈ TB := tb_of (List.mem_of_getElem? (i := 734) rfl) rfl
set_option maxRecDepth 20000 in
theorem wc_X8_door : Cond.code yX8_door cX8_door 3 (some .int) ∈ TB := tb_of (List.mem_of_getElem? (i := 735) rfl) rfl
set_option maxRecDepth 20000 in
theorem wm_L_26 : Cond.methodLink RL 26 yX8_tank ∈ TB := tb_of (List.mem_of_getElem? (i := 736) rfl) rfl
set_option maxRecDepth 20000 in
theorem wi_X8_tank : Cond.instanceMethod yX8_tank ∈ TB := tb_of (List.mem_of_getElem? (i := 737) rfl) rfl
set_option maxRecDepth 20000 in
theorem ws_X8_tank : Cond.selects RX8 yX8_tank yX8_tank ∈ TB := tb_of (List.mem_of_getElem? (i := 738) rfl) rfl
set_option maxRecDepth 20000 in
theorem wc_X8_tank : Cond.code yX8_tank cX8_tank 7 (some .int) ∈ TB := tb_of (List.mem_of_getElem? (i := 739) rfl) rfl
set_option maxRecDepth 20000 in
theorem wm_X8_123 : Cond.methodLink RX8 123 yX8_isDoor ∈ TB := tb_of (List.mem_of_getElem? (i := 740) rfl) rfl
set_option maxRecDepth 20000 in
theorem wi_X8_isDoor : Cond.instanceMethod yX8_isDoor ∈ TB := tb_of (List.mem_of_getElem? (i := 742) rfl) rfl
set_option maxRecDepth 20000 in
theorem wc_X8_isDoor : Cond.code yX8_isDoor cX8_isDoor 2 (some .boolean) ∈ TB := tb_of (List.mem_of_getElem? (i := 743) rfl) rfl
set_option maxRecDepth 20000 in
theorem wm_X8_127 : Cond.methodLink RX8 127 yX8_isKind ∈ TB := tb_of (List.mem_of_getElem? (i := 744) rfl) rfl
set_option maxRecDepth 20000 in
theorem wt_X8_isKind : Cond.static yX8_isKind ∈ TB := tb_of (List.mem_of_getElem? (i := 745) rfl) rfl
set_option maxRecDepth 20000 in
theorem wc_X8_isKind : Cond.code yX8_isKind cX8_isKind 1 (some .boolean) ∈ TB := tb_of (List.mem_of_getElem? (i := 746) rfl) rfl
set_option maxRecDepth 20000 in
theorem wm_L_31 : Cond.methodLink RL 31 yX8_follow ∈ TB := tb_of (List.mem_of_getElem? (i := 747) rfl) rfl
set_option maxRecDepth 20000 in
theorem wi_X8_follow : Cond.instanceMethod yX8_follow ∈ TB := tb_of (List.mem_of_getElem? (i := 748) rfl) rfl
set_option maxRecDepth 20000 in
theorem ws_X8_follow : Cond.selects RX8 yX8_follow yX8_follow ∈ TB := tb_of (List.mem_of_getElem? (i := 749) rfl) rfl
set_option maxRecDepth 20000 in
theorem wc_X8_follow : Cond.code yX8_follow cX8_follow 5 (some .int) ∈ TB := tb_of (List.mem_of_getElem? (i := 750) rfl) rfl
set_option maxRecDepth 20000 in
theorem wm_L_36 : Cond.methodLink RL 36 yX8_grace ∈ TB := tb_of (List.mem_of_getElem? (i := 751) rfl) rfl
set_option maxRecDepth 20000 in
theorem wi_X8_grace : Cond.instanceMethod yX8_grace ∈ TB := tb_of (List.mem_of_getElem? (i := 752) rfl) rfl
set_option maxRecDepth 20000 in
theorem ws_X8_grace : Cond.selects RX8 yX8_grace yX8_grace ∈ TB := tb_of (List.mem_of_getElem? (i := 753) rfl) rfl
set_option maxRecDepth 20000 in
theorem wc_X8_grace : Cond.code yX8_grace cX8_grace 4 (some .int) ∈ TB := tb_of (List.mem_of_getElem? (i := 754) rfl) rfl
set_option maxRecDepth 20000 in
theorem wm_L_40 : Cond.methodLink RL 40 yX8_rate ∈ TB := tb_of (List.mem_of_getElem? (i := 755) rfl) rfl
set_option maxRecDepth 20000 in
theorem wi_X8_rate : Cond.instanceMethod yX8_rate ∈ TB := tb_of (List.mem_of_getElem? (i := 756) rfl) rfl
set_option maxRecDepth 20000 in
theorem ws_X8_rate : Cond.selects RX8 yX8_rate yX8_rate ∈ TB := tb_of (List.mem_of_getElem? (i := 757) rfl) rfl
set_option maxRecDepth 20000 in
theorem wc_X8_rate : Cond.code yX8_rate cX8_rate 4 (some .int) ∈ TB := tb_of (List.mem_of_getElem? (i := 758) rfl) rfl
set_option maxRecDepth 20000 in
theorem wm_L_44 : Cond.methodLink RL 44 yX8_price ∈ TB := tb_of (List.mem_of_getElem? (i := 759) rfl) rfl
set_option maxRecDepth 20000 in
theorem wi_X8_price : Cond.instanceMethod yX8_price ∈ TB := tb_of (List.mem_of_getElem? (i := 760) rfl) rfl
set_option maxRecDepth 20000 in
theorem ws_X8_price : Cond.selects RX8 yX8_price yX8_price ∈ TB := tb_of (List.mem_of_getElem? (i := 761) rfl) rfl
set_option maxRecDepth 20000 in
theorem wc_X8_price : Cond.code yX8_price cX8_price 4 (some .int) ∈ TB := tb_of (List.mem_of_getElem? (i := 762) rfl) rfl
set_option maxRecDepth 20000 in
theorem wm_L_48 : Cond.methodLink RL 48 yX8_wish ∈ TB := tb_of (List.mem_of_getElem? (i := 763) rfl) rfl
set_option maxRecDepth 20000 in
theorem wi_X8_wish : Cond.instanceMethod yX8_wish ∈ TB := tb_of (List.mem_of_getElem? (i := 764) rfl) rfl
set_option maxRecDepth 20000 in
theorem ws_X8_wish : Cond.selects RX8 yX8_wish yX8_wish ∈ TB := tb_of (List.mem_of_getElem? (i := 765) rfl) rfl
set_option maxRecDepth 20000 in
theorem wc_X8_wish : Cond.code yX8_wish cX8_wish 5 (some .int) ∈ TB := tb_of (List.mem_of_getElem? (i := 766) rfl) rfl
set_option maxRecDepth 20000 in
theorem wm_X8_130 : Cond.methodLink RX8 130 yX8_isTank ∈ TB := tb_of (List.mem_of_getElem? (i := 767) rfl) rfl
set_option maxRecDepth 20000 in
theorem wi_X8_isTank : Cond.instanceMethod yX8_isTank ∈ TB := tb_of (List.mem_of_getElem? (i := 769) rfl) rfl
set_option maxRecDepth 20000 in
theorem wc_X8_isTank : Cond.code yX8_isTank cX8_isTank 3 (some .boolean) ∈ TB := tb_of (List.mem_of_getElem? (i := 770) rfl) rfl
set_option maxRecDepth 20000 in
theorem wv_X8_134 : Cond.constant RX8 134 100000 ∈ TB := tb_of (List.mem_of_getElem? (i := 771) rfl) rfl
set_option maxRecDepth 20000 in
theorem wm_L_65 : Cond.methodLink RL 65 yX8_wait ∈ TB := tb_of (List.mem_of_getElem? (i := 772) rfl) rfl
set_option maxRecDepth 20000 in
theorem wi_X8_wait : Cond.instanceMethod yX8_wait ∈ TB := tb_of (List.mem_of_getElem? (i := 773) rfl) rfl
set_option maxRecDepth 20000 in
theorem ws_X8_wait : Cond.selects RX8 yX8_wait yX8_wait ∈ TB := tb_of (List.mem_of_getElem? (i := 774) rfl) rfl
set_option maxRecDepth 20000 in
theorem wc_X8_wait : Cond.code yX8_wait cX8_wait 2 (some .int) ∈ TB := tb_of (List.mem_of_getElem? (i := 775) rfl) rfl
set_option maxRecDepth 20000 in
theorem wm_L_52 : Cond.methodLink RL 52 yX8_push ∈ TB := tb_of (List.mem_of_getElem? (i := 776) rfl) rfl
set_option maxRecDepth 20000 in
theorem wi_X8_push : Cond.instanceMethod yX8_push ∈ TB := tb_of (List.mem_of_getElem? (i := 777) rfl) rfl
set_option maxRecDepth 20000 in
theorem ws_X8_push : Cond.selects RX8 yX8_push yX8_push ∈ TB := tb_of (List.mem_of_getElem? (i := 778) rfl) rfl
set_option maxRecDepth 20000 in
theorem wc_X8_push : Cond.code yX8_push cX8_push 6 (some .int) ∈ TB := tb_of (List.mem_of_getElem? (i := 779) rfl) rfl
set_option maxRecDepth 20000 in
theorem wm_X8_185 : Cond.methodLink RX8 185 yX8_tries ∈ TB := tb_of (List.mem_of_getElem? (i := 780) rfl) rfl
set_option maxRecDepth 20000 in
theorem wi_X8_tries : Cond.instanceMethod yX8_tries ∈ TB := tb_of (List.mem_of_getElem? (i := 782) rfl) rfl
set_option maxRecDepth 20000 in
theorem wc_X8_tries : Cond.code yX8_tries cX8_tries 7 (some .int) ∈ TB := tb_of (List.mem_of_getElem? (i := 783) rfl) rfl
set_option maxRecDepth 20000 in
theorem wm_X8_172 : Cond.methodLink RX8 172 yX8_writeDown ∈ TB := tb_of (List.mem_of_getElem? (i := 784) rfl) rfl
set_option maxRecDepth 20000 in
theorem wi_X8_writeDown : Cond.instanceMethod yX8_writeDown ∈ TB := tb_of (List.mem_of_getElem? (i := 786) rfl) rfl
set_option maxRecDepth 20000 in
theorem wc_X8_writeDown : Cond.code yX8_writeDown cX8_writeDown 2 none ∈ TB := tb_of (List.mem_of_getElem? (i := 787) rfl) rfl
set_option maxRecDepth 20000 in
theorem wm_X8_138 : Cond.methodLink RX8 138 yX8_note ∈ TB := tb_of (List.mem_of_getElem? (i := 788) rfl) rfl
set_option maxRecDepth 20000 in
theorem wi_X8_note : Cond.instanceMethod yX8_note ∈ TB := tb_of (List.mem_of_getElem? (i := 790) rfl) rfl
set_option maxRecDepth 20000 in
theorem wc_X8_note : Cond.code yX8_note cX8_note 2 none ∈ TB := tb_of (List.mem_of_getElem? (i := 791) rfl) rfl
set_option maxRecDepth 20000 in
theorem wm_X8_175 : Cond.methodLink RX8 175 yX8_steps ∈ TB := tb_of (List.mem_of_getElem? (i := 792) rfl) rfl
set_option maxRecDepth 20000 in
theorem wi_X8_steps : Cond.instanceMethod yX8_steps ∈ TB := tb_of (List.mem_of_getElem? (i := 794) rfl) rfl
set_option maxRecDepth 20000 in
theorem wc_X8_steps : Cond.code yX8_steps cX8_steps 8 (some .int) ∈ TB := tb_of (List.mem_of_getElem? (i := 795) rfl) rfl
set_option maxRecDepth 20000 in
theorem wm_X8_162 : Cond.methodLink RX8 162 yX8_goesOut ∈ TB := tb_of (List.mem_of_getElem? (i := 796) rfl) rfl
set_option maxRecDepth 20000 in
theorem wi_X8_goesOut : Cond.instanceMethod yX8_goesOut ∈ TB := tb_of (List.mem_of_getElem? (i := 798) rfl) rfl
set_option maxRecDepth 20000 in
theorem wc_X8_goesOut : Cond.code yX8_goesOut cX8_goesOut 5 (some .boolean) ∈ TB := tb_of (List.mem_of_getElem? (i := 799) rfl) rfl
set_option maxRecDepth 20000 in
theorem wm_X8_146 : Cond.methodLink RX8 146 yX8_isPure ∈ TB := tb_of (List.mem_of_getElem? (i := 800) rfl) rfl
set_option maxRecDepth 20000 in
theorem wi_X8_isPure : Cond.instanceMethod yX8_isPure ∈ TB := tb_of (List.mem_of_getElem? (i := 802) rfl) rfl
set_option maxRecDepth 20000 in
theorem wc_X8_isPure : Cond.code yX8_isPure cX8_isPure 2 (some .boolean) ∈ TB := tb_of (List.mem_of_getElem? (i := 803) rfl) rfl
set_option maxRecDepth 20000 in
theorem wm_X8_156 : Cond.methodLink RX8 156 yX8_fits ∈ TB := tb_of (List.mem_of_getElem? (i := 804) rfl) rfl
set_option maxRecDepth 20000 in
theorem wi_X8_fits : Cond.instanceMethod yX8_fits ∈ TB := tb_of (List.mem_of_getElem? (i := 806) rfl) rfl
set_option maxRecDepth 20000 in
theorem wc_X8_fits : Cond.code yX8_fits cX8_fits 2 (some .boolean) ∈ TB := tb_of (List.mem_of_getElem? (i := 807) rfl) rfl
set_option maxRecDepth 20000 in
theorem wm_X8_165 : Cond.methodLink RX8 165 yX8_mixes ∈ TB := tb_of (List.mem_of_getElem? (i := 808) rfl) rfl
set_option maxRecDepth 20000 in
theorem wi_X8_mixes : Cond.instanceMethod yX8_mixes ∈ TB := tb_of (List.mem_of_getElem? (i := 810) rfl) rfl
set_option maxRecDepth 20000 in
theorem wc_X8_mixes : Cond.code yX8_mixes cX8_mixes 11 none ∈ TB := tb_of (List.mem_of_getElem? (i := 811) rfl) rfl
set_option maxRecDepth 20000 in
theorem wm_X8_159 : Cond.methodLink RX8 159 yX8_border ∈ TB := tb_of (List.mem_of_getElem? (i := 812) rfl) rfl
set_option maxRecDepth 20000 in
theorem wi_X8_border : Cond.instanceMethod yX8_border ∈ TB := tb_of (List.mem_of_getElem? (i := 814) rfl) rfl
set_option maxRecDepth 20000 in
theorem wc_X8_border : Cond.code yX8_border cX8_border 3 (some .int) ∈ TB := tb_of (List.mem_of_getElem? (i := 815) rfl) rfl
set_option maxRecDepth 20000 in
theorem wm_X8_149 : Cond.methodLink RX8 149 yX8_neighbour ∈ TB := tb_of (List.mem_of_getElem? (i := 816) rfl) rfl
set_option maxRecDepth 20000 in
theorem wi_X8_neighbour : Cond.instanceMethod yX8_neighbour ∈ TB := tb_of (List.mem_of_getElem? (i := 818) rfl) rfl
set_option maxRecDepth 20000 in
theorem wc_X8_neighbour : Cond.code yX8_neighbour cX8_neighbour 4 (some .int) ∈ TB := tb_of (List.mem_of_getElem? (i := 819) rfl) rfl
set_option maxRecDepth 20000 in
theorem wm_X8_169 : Cond.methodLink RX8 169 yX8_isWrong ∈ TB := tb_of (List.mem_of_getElem? (i := 820) rfl) rfl
set_option maxRecDepth 20000 in
theorem wi_X8_isWrong : Cond.instanceMethod yX8_isWrong ∈ TB := tb_of (List.mem_of_getElem? (i := 822) rfl) rfl
set_option maxRecDepth 20000 in
theorem wc_X8_isWrong : Cond.code yX8_isWrong cX8_isWrong 4 (some .boolean) ∈ TB := tb_of (List.mem_of_getElem? (i := 823) rfl) rfl
set_option maxRecDepth 20000 in
theorem wm_X8_153 : Cond.methodLink RX8 153 yX8_mayNot ∈ TB := tb_of (List.mem_of_getElem? (i := 824) rfl) rfl
set_option maxRecDepth 20000 in
theorem wi_X8_mayNot : Cond.instanceMethod yX8_mayNot ∈ TB := tb_of (List.mem_of_getElem? (i := 826) rfl) rfl
set_option maxRecDepth 20000 in
theorem wc_X8_mayNot : Cond.code yX8_mayNot cX8_mayNot 3 (some .boolean) ∈ TB := tb_of (List.mem_of_getElem? (i := 827) rfl) rfl
set_option maxRecDepth 20000 in
theorem wm_X8_179 : Cond.methodLink RX8 179 yX8_bringBack ∈ TB := tb_of (List.mem_of_getElem? (i := 828) rfl) rfl
set_option maxRecDepth 20000 in
theorem wi_X8_bringBack : Cond.instanceMethod yX8_bringBack ∈ TB := tb_of (List.mem_of_getElem? (i := 830) rfl) rfl
set_option maxRecDepth 20000 in
theorem wc_X8_bringBack : Cond.code yX8_bringBack cX8_bringBack 2 none ∈ TB := tb_of (List.mem_of_getElem? (i := 831) rfl) rfl
set_option maxRecDepth 20000 in
theorem wm_X8_142 : Cond.methodLink RX8 142 yX8_noted ∈ TB := tb_of (List.mem_of_getElem? (i := 832) rfl) rfl
set_option maxRecDepth 20000 in
theorem wi_X8_noted : Cond.instanceMethod yX8_noted ∈ TB := tb_of (List.mem_of_getElem? (i := 834) rfl) rfl
set_option maxRecDepth 20000 in
theorem wc_X8_noted : Cond.code yX8_noted cX8_noted 1 (some .int) ∈ TB := tb_of (List.mem_of_getElem? (i := 835) rfl) rfl
set_option maxRecDepth 20000 in
theorem wm_X8_182 : Cond.methodLink RX8 182 yX8_ends ∈ TB := tb_of (List.mem_of_getElem? (i := 836) rfl) rfl
set_option maxRecDepth 20000 in
theorem wi_X8_ends : Cond.instanceMethod yX8_ends ∈ TB := tb_of (List.mem_of_getElem? (i := 838) rfl) rfl
set_option maxRecDepth 20000 in
theorem wc_X8_ends : Cond.code yX8_ends cX8_ends 6 none ∈ TB := tb_of (List.mem_of_getElem? (i := 839) rfl) rfl
set_option maxRecDepth 20000 in
theorem wm_L_56 : Cond.methodLink RL 56 yX8_trial ∈ TB := tb_of (List.mem_of_getElem? (i := 840) rfl) rfl
set_option maxRecDepth 20000 in
theorem wi_X8_trial : Cond.instanceMethod yX8_trial ∈ TB := tb_of (List.mem_of_getElem? (i := 841) rfl) rfl
set_option maxRecDepth 20000 in
theorem ws_X8_trial : Cond.selects RX8 yX8_trial yX8_trial ∈ TB := tb_of (List.mem_of_getElem? (i := 842) rfl) rfl
set_option maxRecDepth 20000 in
theorem wc_X8_trial : Cond.code yX8_trial cX8_trial 6 (some .int) ∈ TB := tb_of (List.mem_of_getElem? (i := 843) rfl) rfl
set_option maxRecDepth 20000 in
theorem wm_L_61 : Cond.methodLink RL 61 yX8_undo ∈ TB := tb_of (List.mem_of_getElem? (i := 844) rfl) rfl
set_option maxRecDepth 20000 in
theorem wi_X8_undo : Cond.instanceMethod yX8_undo ∈ TB := tb_of (List.mem_of_getElem? (i := 845) rfl) rfl
set_option maxRecDepth 20000 in
theorem ws_X8_undo : Cond.selects RX8 yX8_undo yX8_undo ∈ TB := tb_of (List.mem_of_getElem? (i := 846) rfl) rfl
set_option maxRecDepth 20000 in
theorem wc_X8_undo : Cond.code yX8_undo cX8_undo 1 (some .int) ∈ TB := tb_of (List.mem_of_getElem? (i := 847) rfl) rfl
set_option maxRecDepth 20000 in
theorem wm_L_69 : Cond.methodLink RL 69 yX8_at ∈ TB := tb_of (List.mem_of_getElem? (i := 848) rfl) rfl
set_option maxRecDepth 20000 in
theorem wi_X8_at : Cond.instanceMethod yX8_at ∈ TB := tb_of (List.mem_of_getElem? (i := 849) rfl) rfl
set_option maxRecDepth 20000 in
theorem ws_X8_at : Cond.selects RX8 yX8_at yX8_at ∈ TB := tb_of (List.mem_of_getElem? (i := 850) rfl) rfl
set_option maxRecDepth 20000 in
theorem wc_X8_at : Cond.code yX8_at cX8_at 3 (some .int) ∈ TB := tb_of (List.mem_of_getElem? (i := 851) rfl) rfl
set_option maxRecDepth 20000 in
theorem wm_L_73 : Cond.methodLink RL 73 yX8_batch ∈ TB := tb_of (List.mem_of_getElem? (i := 852) rfl) rfl
set_option maxRecDepth 20000 in
theorem wi_X8_batch : Cond.instanceMethod yX8_batch ∈ TB := tb_of (List.mem_of_getElem? (i := 853) rfl) rfl
set_option maxRecDepth 20000 in
theorem ws_X8_batch : Cond.selects RX8 yX8_batch yX8_batch ∈ TB := tb_of (List.mem_of_getElem? (i := 854) rfl) rfl
set_option maxRecDepth 20000 in
theorem wc_X8_batch : Cond.code yX8_batch cX8_batch 7 (some .int) ∈ TB := tb_of (List.mem_of_getElem? (i := 855) rfl) rfl
set_option maxRecDepth 20000 in
theorem wm_L_78 : Cond.methodLink RL 78 yX8_tankOf ∈ TB := tb_of (List.mem_of_getElem? (i := 856) rfl) rfl
set_option maxRecDepth 20000 in
theorem wi_X8_tankOf : Cond.instanceMethod yX8_tankOf ∈ TB := tb_of (List.mem_of_getElem? (i := 857) rfl) rfl
set_option maxRecDepth 20000 in
theorem ws_X8_tankOf : Cond.selects RX8 yX8_tankOf yX8_tankOf ∈ TB := tb_of (List.mem_of_getElem? (i := 858) rfl) rfl
set_option maxRecDepth 20000 in
theorem wc_X8_tankOf : Cond.code yX8_tankOf cX8_tankOf 5 (some .int) ∈ TB := tb_of (List.mem_of_getElem? (i := 859) rfl) rfl
set_option maxRecDepth 20000 in
theorem wm_L_82 : Cond.methodLink RL 82 yX8_about ∈ TB := tb_of (List.mem_of_getElem? (i := 860) rfl) rfl
set_option maxRecDepth 20000 in
theorem wi_X8_about : Cond.instanceMethod yX8_about ∈ TB := tb_of (List.mem_of_getElem? (i := 861) rfl) rfl
set_option maxRecDepth 20000 in
theorem ws_X8_about : Cond.selects RX8 yX8_about yX8_about ∈ TB := tb_of (List.mem_of_getElem? (i := 862) rfl) rfl
set_option maxRecDepth 20000 in
theorem wc_X8_about : Cond.code yX8_about cX8_about 3 (some .int) ∈ TB := tb_of (List.mem_of_getElem? (i := 863) rfl) rfl
set_option maxRecDepth 20000 in
theorem wm_L_86 : Cond.methodLink RL 86 yX8_wished ∈ TB := tb_of (List.mem_of_getElem? (i := 864) rfl) rfl
set_option maxRecDepth 20000 in
theorem wi_X8_wished : Cond.instanceMethod yX8_wished ∈ TB := tb_of (List.mem_of_getElem? (i := 865) rfl) rfl
set_option maxRecDepth 20000 in
theorem ws_X8_wished : Cond.selects RX8 yX8_wished yX8_wished ∈ TB := tb_of (List.mem_of_getElem? (i := 866) rfl) rfl
set_option maxRecDepth 20000 in
theorem wc_X8_wished : Cond.code yX8_wished cX8_wished 4 (some .int) ∈ TB := tb_of (List.mem_of_getElem? (i := 867) rfl) rfl
set_option maxRecDepth 20000 in
theorem wm_X8_189 : Cond.methodLink RX8 189 yX8_late ∈ TB := tb_of (List.mem_of_getElem? (i := 868) rfl) rfl
set_option maxRecDepth 20000 in
theorem wi_X8_late : Cond.instanceMethod yX8_late ∈ TB := tb_of (List.mem_of_getElem? (i := 870) rfl) rfl
set_option maxRecDepth 20000 in
theorem wc_X8_late : Cond.code yX8_late cX8_late 3 (some .int) ∈ TB := tb_of (List.mem_of_getElem? (i := 871) rfl) rfl
set_option maxRecDepth 20000 in
theorem wm_L_90 : Cond.methodLink RL 90 yX8_count ∈ TB := tb_of (List.mem_of_getElem? (i := 872) rfl) rfl
set_option maxRecDepth 20000 in
theorem wi_X8_count : Cond.instanceMethod yX8_count ∈ TB := tb_of (List.mem_of_getElem? (i := 873) rfl) rfl
set_option maxRecDepth 20000 in
theorem ws_X8_count : Cond.selects RX8 yX8_count yX8_count ∈ TB := tb_of (List.mem_of_getElem? (i := 874) rfl) rfl
set_option maxRecDepth 20000 in
theorem wc_X8_count : Cond.code yX8_count cX8_count 4 (some .int) ∈ TB := tb_of (List.mem_of_getElem? (i := 875) rfl) rfl
set_option maxRecDepth 20000 in
theorem wm_L_94 : Cond.methodLink RL 94 yX8_borders ∈ TB := tb_of (List.mem_of_getElem? (i := 876) rfl) rfl
set_option maxRecDepth 20000 in
theorem wi_X8_borders : Cond.instanceMethod yX8_borders ∈ TB := tb_of (List.mem_of_getElem? (i := 877) rfl) rfl
set_option maxRecDepth 20000 in
theorem ws_X8_borders : Cond.selects RX8 yX8_borders yX8_borders ∈ TB := tb_of (List.mem_of_getElem? (i := 878) rfl) rfl
set_option maxRecDepth 20000 in
theorem wc_X8_borders : Cond.code yX8_borders cX8_borders 3 (some .int) ∈ TB := tb_of (List.mem_of_getElem? (i := 879) rfl) rfl
theorem in_X0 : ∀ w ∈ u_ws RX0 TX0 6, w ∈ TB := fun w hw => tb_of ((show ∀ w ∈ u_ws RX0 TX0 6, w ∈ lw_tbl by decide +kernel) w hw) (by revert w; decide +kernel)
theorem in_X1 : ∀ w ∈ u_ws RX1 TX1 7, w ∈ TB := fun w hw => tb_of ((show ∀ w ∈ u_ws RX1 TX1 7, w ∈ lw_tbl by decide +kernel) w hw) (by revert w; decide +kernel)
theorem in_X2 : ∀ w ∈ u_ws RX2 TX2 5, w ∈ TB := fun w hw => tb_of ((show ∀ w ∈ u_ws RX2 TX2 5, w ∈ lw_tbl by decide +kernel) w hw) (by revert w; decide +kernel)
theorem in_X3 : ∀ w ∈ u_ws RX3 TX3 5, w ∈ TB := fun w hw => tb_of ((show ∀ w ∈ u_ws RX3 TX3 5, w ∈ lw_tbl by decide +kernel) w hw) (by revert w; decide +kernel)
theorem in_X4 : ∀ w ∈ u_ws RX4 TX4 4, w ∈ TB := fun w hw => tb_of ((show ∀ w ∈ u_ws RX4 TX4 4, w ∈ lw_tbl by decide +kernel) w hw) (by revert w; decide +kernel)
theorem in_X5 : ∀ w ∈ u_ws RX5 TX5 4, w ∈ TB := fun w hw => tb_of ((show ∀ w ∈ u_ws RX5 TX5 4, w ∈ lw_tbl by decide +kernel) w hw) (by revert w; decide +kernel)
theorem in_X6 : ∀ w ∈ u_ws RX6 TX6 5, w ∈ TB := fun w hw => tb_of ((show ∀ w ∈ u_ws RX6 TX6 5, w ∈ lw_tbl by decide +kernel) w hw) (by revert w; decide +kernel)
theorem in_X7 : ∀ w ∈ u_ws RX7 TX7 9, w ∈ TB := fun w hw => tb_of ((show ∀ w ∈ u_ws RX7 TX7 9, w ∈ lw_tbl by decide +kernel) w hw) (by revert w; decide +kernel)
theorem in_X8 : ∀ w ∈ u_ws RX8 TX8 35, w ∈ TB := fun w hw => tb_of ((show ∀ w ∈ u_ws RX8 TX8 35, w ∈ lw_tbl by decide +kernel) w hw) (by revert w; decide +kernel)
end
section
/-! THE FLAT WORLD: cells numbered in the order of their making; ad: their addresses; C: what they hold -/
abbrev Mem : Type := Nat → Nat → Int32
abbrev GT : Type := Nat × va_G × ClassId × ClassId × ClassId
def wl (N : Nat) (ad : Nat → Nat) (C : Nat → va_E) : va_W := (List.range N).map (fun i => (ad i, C i))
theorem wl_len (N : Nat) (ad : Nat → Nat) (C : Nat → va_E) : (wl N ad C).length = N := by simp [wl]
theorem wl_get {N k : Nat} {ad : Nat → Nat} {C : Nat → va_E} (h : k < N) : (wl N ad C)[k]? = some (ad k, C k) := by simp [wl, h]
theorem wl_set {N k : Nat} {ad : Nat → Nat} {C : Nat → va_E} (e : va_E) (h : k < N) : (wl N ad C).set k (ad k, e) = wl N ad (va_up C k e) := by
  apply List.ext_getElem?
  intro j
  by_cases hj : j = k
  · subst hj
    rw [List.getElem?_set_self (by rw [wl_len]; exact h), wl_get h, va_up_self]
  · rw [List.getElem?_set_ne (Ne.symm hj)]
    by_cases hN : j < N
    · rw [wl_get hN, wl_get hN, va_up_ne _ _ hj]
    · rw [List.getElem?_eq_none (by rw [wl_len]; omega), List.getElem?_eq_none (by rw [wl_len]; omega)]
theorem wl_push (N : Nat) (ad : Nat → Nat) (C : Nat → va_E) (q : Nat) (e : va_E) : wl N ad C ++ [(q, e)] = wl (N + 1) (va_up ad N q) (va_up C N e) := by
  apply List.ext_getElem?
  intro j
  by_cases hN : j < N
  · rw [List.getElem?_append_left (by rw [wl_len]; exact hN), wl_get hN, wl_get (by omega), va_up_ne _ _ (Nat.ne_of_lt hN), va_up_ne _ _ (Nat.ne_of_lt hN)]
  · rw [List.getElem?_append_right (by rw [wl_len]; omega), wl_len]
    by_cases hj : j = N
    · subst hj
      rw [wl_get (by omega), va_up_self, va_up_self, Nat.sub_self]
      rfl
    · rw [List.getElem?_eq_none (by simp; omega), List.getElem?_eq_none (by rw [wl_len]; omega)]
def tysG (G : GT) : List (ClassId × FieldType) := [(G.2.2.1, .int), (G.2.2.2.1, .boolean), (G.2.2.2.2, .object "OilLine$Moment")]
def nests : List (String × Nat × MethodName) := [(RX7, 18, yX0_init), (RX7, 25, yX6_init), (RX7, 32, yX3_init), (RX7, 46, yX1_init), (RX1, 23, yX2_init), (RX1, 30, yX4_init), (RX0, 32, yX7_within), (RX3, 25, yX7_tankNumber), (RX1, 141, yX7_tankNumber)]
def NL (U : State) : Prop := (∀ q ∈ nests, va_Nw (.methodLinkNest q.1 q.2.1 q.2.2 "OilLine") U) ∧ va_AO "OilLine$Moment" U
theorem NL.warm {s U : State} (hW : s.WarmedH U.vm) (h : NL s) : NL U := ⟨fun q hq => va_Nw.warmM hW (h.1 q hq), h.2.moved hW.alike⟩
theorem NL.same {s U : State} (hv : s.vm = U.vm) (h : NL s) : NL U := ⟨fun q hq => va_Nw.same rfl hv (h.1 q hq), h.2.moved (by rw [hv]; exact Vm.Alike.refl _)⟩
def Hg (G : GT) (N : Nat) (ad : Nat → Nat) (C : Nat → va_E) (U : State) : Prop := G.1 ≤ U.heap.size ∧ va_P G.2.1 vwCl (wl N ad C) U.heap ∧ va_D (fun q => G.1 ≤ q) (wl N ad C) ∧ va_K G.2.1 vwCl (tysG G) U ∧ NL U
def Wg (G : GT) (N : Nat) (ad : Nat → Nat) (C : Nat → va_E) (s : State) (H : Heap) (locs : List Loc) : Prop := va_P G.2.1 vwCl (wl N ad C) H ∧ va_D (fun q => G.1 ≤ q) (wl N ad C) ∧ va_S (fun q => G.1 ≤ q) s.heap H locs ∧ va_K G.2.1 vwCl (tysG G) s ∧ NL s ∧ G.1 ≤ s.heap.size
theorem Hg.start {G : GT} {N : Nat} {ad : Nat → Nat} {C : Nat → va_E} {s : State} (h : Hg G N ad C s) : Wg G N ad C s s.heap [] := ⟨h.2.1, h.2.2.1, va_S.rf, h.2.2.2.1, h.2.2.2.2, h.1⟩
theorem Wg.at {G : GT} {N : Nat} {ad : Nat → Nat} {C : Nat → va_E} {s U : State} {H : Heap} {locs : List Loc} (h : Wg G N ad C s H locs) (hU : U.heap = H) (hW : s.WarmedH U.vm) : Hg G N ad C U := ⟨by rw [hU]; exact Nat.le_trans h.2.2.2.2.2 h.2.2.1.1, by rw [hU]; exact h.1, h.2.1, va_K.moved hW.alike h.2.2.2.1, h.2.2.2.2.1.warm hW⟩
theorem Hg.blind {G : GT} {N : Nat} {ad : Nat → Nat} {C : Nat → va_E} {U : State} {g : JFrame} {mk : MethodId} {a : Array Value} (h : Hg G N ad C U) : Hg G N ad C (U.calling g mk a) := ⟨h.1, h.2.1, h.2.2.1, va_K.moved (u := U) (U := U.calling g mk a) (Vm.Alike.refl U.vm) h.2.2.2.1, h.2.2.2.2.same rfl⟩
theorem Wg.hA {G : GT} {N : Nat} {ad : Nat → Nat} {C : Nat → va_E} {s : State} {H : Heap} {locs : List Loc} (h : Wg G N ad C s H locs) : ∀ q, s.heap.size ≤ q → G.1 ≤ q := fun _ hq => Nat.le_trans h.2.2.2.2.2 hq
/-- another way to say the same content -/
theorem Wg.to {G : GT} {N N' : Nat} {ad ad' : Nat → Nat} {C C' : Nat → va_E} {s : State} {H : Heap} {locs : List Loc} (h : Wg G N ad C s H locs) (hN : N = N') (ha : ∀ i, i < N → ad i = ad' i) (hC : ∀ i, i < N → C i = C' i) : Wg G N' ad' C' s H locs := by
  subst hN
  have e : wl N ad C = wl N ad' C' := by
    unfold wl
    apply List.map_congr_left
    intro i hi
    have hi' := List.mem_range.mp hi
    rw [ha i hi', hC i hi']
  unfold Wg at h ⊢
  rw [← e]
  exact h
theorem Hg.to {G : GT} {N N' : Nat} {ad ad' : Nat → Nat} {C C' : Nat → va_E} {s : State} (h : Hg G N ad C s) (hN : N = N') (ha : ∀ i, i < N → ad i = ad' i) (hC : ∀ i, i < N → C i = C' i) : Hg G N' ad' C' s := by
  subst hN
  have e : wl N ad C = wl N ad' C' := by
    unfold wl
    apply List.map_congr_left
    intro i hi
    have hi' := List.mem_range.mp hi
    rw [ha i hi', hC i hi']
  unfold Hg at h ⊢
  rw [← e]
  exact h
/-- what a contract says: any state with the content, the arguments; it returns; the content then -/
abbrev St : Type := Nat × (Nat → Nat) × (Nat → va_E)
abbrev HgS (G : GT) (u : St) (t : State) : Prop := Hg G u.1 u.2.1 u.2.2 t
abbrev CgV (l : Launch) (G : GT) (y : MethodName) (cd : ByteArray) (mL fr lo mc ms : Nat) (av : List Value) (u : St) (post : St → Prop) : Prop := Met l y (.code y cd mL none :: TB) { frames := fr, cells := mc, slots := ms, locals := lo } (va_Pc av (HgS G u)) (va_Qv post (HgS G) (fun q => G.1 ≤ q)) mc ms (fun q => G.1 ≤ q)
abbrev CgI (l : Launch) (G : GT) (y : MethodName) (cd : ByteArray) (mL : Nat) (ty : FieldType) (fr lo mc ms : Nat) (av : List Value) (u : St) (post : Int32 → St → Prop) : Prop := Met l y (.code y cd mL (some ty) :: TB) { frames := fr, cells := mc, slots := ms, locals := lo } (va_Pc av (HgS G u)) (va_Qi post (HgS G) (fun q => G.1 ≤ q)) mc ms (fun q => G.1 ≤ q)
/-- what is the same for every call of a method: its words -/
def MFv (y : MethodName) (cd : ByteArray) (mL : Nat) (ret : Option FieldType) (C : String) (n : Nat) : Prop := Cond.code y cd mL ret ∈ TB ∧ Cond.instanceMethod y ∈ TB ∧ Cond.selects C y y ∈ TB ∧ Cond.initialized y.cls ∈ TB ∧ y.cls ≠ "java/lang/invoke/MethodHandle" ∧ y.cls ≠ "java/lang/invoke/VarHandle" ∧ (parseMethodDescriptor y.desc).map (fun d => d.parameters.length) = some n
def MFs (y : MethodName) (cd : ByteArray) (mL : Nat) (ret : Option FieldType) (n : Nat) : Prop := Cond.code y cd mL ret ∈ TB ∧ Cond.static y ∈ TB ∧ Cond.initialized y.cls ∈ TB ∧ y.cls ≠ "java/lang/invoke/MethodHandle" ∧ y.cls ≠ "java/lang/invoke/VarHandle" ∧ (parseMethodDescriptor y.desc).map (fun d => d.parameters.length) = some n
def MFi (y : MethodName) (cd : ByteArray) (mL : Nat) (n : Nat) : Prop := Cond.code y cd mL none ∈ TB ∧ Cond.instanceMethod y ∈ TB ∧ Cond.initialized y.cls ∈ TB ∧ y.name = "<init>" ∧ y.cls ≠ "java/lang/invoke/MethodHandle" ∧ y.cls ≠ "java/lang/invoke/VarHandle" ∧ (parseMethodDescriptor y.desc).map (fun d => d.parameters.length) = some n
section KIT
variable {p : Program} {l : Launch} {e : Env} {R : Room} {s : State} {m : MethodId} {args : Array Value} {below : List Frame} {meth : Method} {c : Code} {H : Heap} {locs : List Loc} {cells slots : Nat} {Q : State → Prop}
variable {cc : ByteArray} {pc nL : Nat} {ls : Array Slot} {rest st0 : List Value} {own : String} {G : GT} {N : Nat} {ad : Nat → Nat} {C : Nat → va_E}
/-- the beginning of a contract's walk -/
theorem cg_startI {y : MethodName} {cd : ByteArray} {mL fr lo mc ms : Nat} {ty : FieldType} {av : List Value} {u : St} {post : Int32 → St → Prop} (hy : plainName y.cls = true) (hn : (lg_sl av).length ≤ mL)
    (body : ∀ (p : Program) (e : Env) (s : State) (m : MethodId) (below : List Frame) (meth : Method) (c : Code) (ls : Array Slot), CallFix p m c cd mL s av.toArray TB y.cls → meth.sig.returnType = some ty → meth.locks = false → Wg G u.1 u.2.1 u.2.2 s s.heap [] → lv_has ls mL (lv_args 0 av) →
      W p l e { frames := fr, cells := mc, slots := ms, locals := lo } s m av.toArray below meth c s.heap [] 0 0 (MQ below (va_Qi post (HgS G) (fun q => G.1 ≤ q)) av.toArray s mc ms (fun q => G.1 ≤ q)) (F0 m 0 ls [])) : CgI l G y cd mL ty fr lo mc ms av u post := by
  refine Met.ofW (cc := cd) (maxL := mL) (ret := some ty) hy rfl ?_
  intro p e s m args below meth c s₁ B hml hv
  obtain ⟨rfl, hH⟩ := hv
  have hts := atoms_spec (ws := .code y cd mL (some ty) :: TB) B.pre
  have hl := lv_entry av (n := mL) hn
  rw [lg_entry_eq]
  exact body p e s m below meth c _ ⟨B.exec, B.bytes, hml, findClass_of_methodNamed B.named, fun w hw => hts w (List.mem_cons_of_mem _ hw)⟩ B.returns B.notSynchronized hH.start hl
theorem cg_startV {y : MethodName} {cd : ByteArray} {mL fr lo mc ms : Nat} {av : List Value} {u : St} {post : St → Prop} (hy : plainName y.cls = true) (hn : (lg_sl av).length ≤ mL)
    (body : ∀ (p : Program) (e : Env) (s : State) (m : MethodId) (below : List Frame) (meth : Method) (c : Code) (ls : Array Slot), CallFix p m c cd mL s av.toArray TB y.cls → meth.sig.returnType = none → meth.locks = false → meth.name = y.name → Wg G u.1 u.2.1 u.2.2 s s.heap [] → lv_has ls mL (lv_args 0 av) →
      W p l e { frames := fr, cells := mc, slots := ms, locals := lo } s m av.toArray below meth c s.heap [] 0 0 (MQ below (va_Qv post (HgS G) (fun q => G.1 ≤ q)) av.toArray s mc ms (fun q => G.1 ≤ q)) (F0 m 0 ls [])) : CgV l G y cd mL fr lo mc ms av u post := by
  refine Met.ofW (cc := cd) (maxL := mL) (ret := none) hy rfl ?_
  intro p e s m args below meth c s₁ B hml hv
  obtain ⟨rfl, hH⟩ := hv
  have hts := atoms_spec (ws := .code y cd mL none :: TB) B.pre
  have hl := lv_entry av (n := mL) hn
  rw [lg_entry_eq]
  exact body p e s m below meth c _ ⟨B.exec, B.bytes, hml, findClass_of_methodNamed B.named, fun w hw => hts w (List.mem_cons_of_mem _ hw)⟩ B.returns B.notSynchronized (name_of_methodNamed B.named B.method).1 hH.start hl
/-- its ends -/
theorem g_reti {post : Int32 → St → Prop} {v : Int32} (S : CallFix p m c cc nL s args TB own) (hr : meth.sig.returnType = some .int) (hlocks : meth.locks = false) (hw : Wg G N ad C s H locs) (hp : post v (N, ad, C)) (hdg : decode cc pc = .ok (.ireturn, 1)) :
    W p l e R s m args below meth c H locs cells slots (MQ below (va_Qi post (HgS G) (fun q => G.1 ≤ q)) args s cells slots (fun q => G.1 ≤ q)) (F0 m pc ls [.int v]) :=
  W.iret (v := v) S.1 S.2.1 hr (fun t ht hW => ⟨⟨v, (N, ad, C), rfl, hp, hw.at ht hW⟩, hw.2.2.1.F ht⟩) hw.2.2.1.2.2 hdg hlocks
theorem g_retz {post : Int32 → St → Prop} {v : Int32} (S : CallFix p m c cc nL s args TB own) (hr : meth.sig.returnType = some .boolean) (hlocks : meth.locks = false) (hw : Wg G N ad C s H locs) (hn : narrow .boolean (.int v) = .int v) (hp : post v (N, ad, C)) (hdg : decode cc pc = .ok (.ireturn, 1)) :
    W p l e R s m args below meth c H locs cells slots (MQ below (va_Qi post (HgS G) (fun q => G.1 ≤ q)) args s cells slots (fun q => G.1 ≤ q)) (F0 m pc ls [.int v]) :=
  W.zret (v := v) S.1 S.2.1 hr hn (fun t ht hW => ⟨⟨v, (N, ad, C), rfl, hp, hw.at ht hW⟩, hw.2.2.1.F ht⟩) hw.2.2.1.2.2 hdg hlocks
theorem g_retv {post : St → Prop} (S : CallFix p m c cc nL s args TB own) (hr : meth.sig.returnType = none) (hlocks : meth.locks = false) (hw : Wg G N ad C s H locs) (hp : post (N, ad, C)) (hdg : decode cc pc = .ok (.return_, 1)) :
    W p l e R s m args below meth c H locs cells slots (MQ below (va_Qv post (HgS G) (fun q => G.1 ≤ q)) args s cells slots (fun q => G.1 ≤ q)) (F0 m pc ls []) :=
  W.vret S.1 S.2.1 hr (fun t ht hW => ⟨⟨(N, ad, C), rfl, hp, hw.at ht hW⟩, hw.2.2.1.F ht⟩) hw.2.2.1.2.2 hdg hlocks
/-- fields -/
theorem g_get (S : CallFix p m c cc nL s args TB own) (hw : Wg G N ad C s H locs) (k : Nat) (hk : k < N) {ci : Nat} {fs : List Value} (hC : C k = .inr (ci, fs)) {Cn : String} {T : u_T} {NN : Nat} (hcl : vwCl[ci]? = some (Cn, T, NN)) (hin : ∀ w ∈ u_ws Cn T NN, w ∈ TB) (j : Nat) (hj : j < NN) {index : Nat} (hlk : Cond.fieldLink own index (T j).1 (T j).2.1 (T j).2.2.1 ∈ TB) {v : Value} (hv : fs[j]? = some v) (hdg : decode cc pc = .ok (.getfield index, 3))
    (kk : W p l e R s m args below meth c H locs cells slots Q (F0 m (pc + 3) ls (v :: rest))) : W p l e R s m args below meth c H locs cells slots Q (F0 m pc ls (.ref (ad k) :: rest)) :=
  va_get (D := G.2.1) (ci := ci) (v := v) (C := Cn) (T := T) (N := NN) S.1 S.2.1 S.2.2.2.2 hin S.2.2.2.1 hw.2.2.2.1 hw.1 k (by rw [wl_get hk, hC]) hcl j hj (S.2.2.2.2 _ hlk) (fun _ h9 => h9) hv hdg kk
theorem g_put (S : CallFix p m c cc nL s args TB own) (hw : Wg G N ad C s H locs) (k : Nat) (hk : k < N) {ci : Nat} {fs : List Value} (hC : C k = .inr (ci, fs)) {Cn : String} {T : u_T} {NN : Nat} (hcl : vwCl[ci]? = some (Cn, T, NN)) (hin : ∀ w ∈ u_ws Cn T NN, w ∈ TB) {ty0 : Nat → FieldType} (hty : ∀ k, k < NN → parseFieldDescriptor (T k).2.2.1 = some (ty0 k)) (hnm : ∀ a, a < NN → ∀ b, b < NN → a ≠ b → (T a).2.1 ≠ (T b).2.1) (j : Nat) (hj : j < NN) {index : Nat} (hlk : Cond.fieldLink own index (T j).1 (T j).2.1 (T j).2.2.1 ∈ TB) (hfin : (T j).2.2.2 = false) {v : Value} (hn : narrow (ty0 j) v = v) (hfit : fits (ty0 j) v = true) (hl : j < fs.length) (hdg : decode cc pc = .ok (.putfield index, 3))
    (kk : ∀ (H1 : Heap) (locs1 : List Loc), Wg G N ad (va_up C k (.inr (ci, fs.set j v))) s H1 locs1 → W p l e R s m args below meth c H1 locs1 cells slots Q (F0 m (pc + 3) ls rest)) : W p l e R s m args below meth c H locs cells slots Q (F0 m pc ls (v :: .ref (ad k) :: rest)) := by
  refine va_put (D := G.2.1) (ci := ci) (v := v) (ty := ty0 j) (C := Cn) (T := T) (N := NN) S.1 S.2.1 S.2.2.2.2 hin ty0 hty hnm S.2.2.2.1 hw.2.2.2.1 hw.1 hw.2.1 hw.2.2.1 k (by rw [wl_get hk, hC]) hcl j hj (S.2.2.2.2 _ hlk) (fun _ h9 => h9) hfin (hty j hj) hn hfit hl hdg (fun H1 locs1 hP hD hS => ?_)
  rw [wl_set _ hk] at hP hD
  exact kk H1 locs1 ⟨hP, hD, hS, hw.2.2.2⟩
theorem g_putF (S : CallFix p m c cc nL s args TB own) (hw : Wg G N ad C s H locs) (k : Nat) (hk : k < N) {ci : Nat} {fs : List Value} (hC : C k = .inr (ci, fs)) {Cn : String} {T : u_T} {NN : Nat} (hcl : vwCl[ci]? = some (Cn, T, NN)) (hin : ∀ w ∈ u_ws Cn T NN, w ∈ TB) {ty0 : Nat → FieldType} (hty : ∀ k, k < NN → parseFieldDescriptor (T k).2.2.1 = some (ty0 k)) (hnm : ∀ a, a < NN → ∀ b, b < NN → a ≠ b → (T a).2.1 ≠ (T b).2.1) (j : Nat) (hj : j < NN) {index : Nat} (hlk : Cond.fieldLink own index (T j).1 (T j).2.1 (T j).2.2.1 ∈ TB) (hfin : (T j).2.2.2 = true) (hini : meth.name = "<init>") (hdecl : (T j).1 = own) {v : Value} (hn : narrow (ty0 j) v = v) (hfit : fits (ty0 j) v = true) (hl : j < fs.length) (hdg : decode cc pc = .ok (.putfield index, 3))
    (kk : ∀ (H1 : Heap) (locs1 : List Loc), Wg G N ad (va_up C k (.inr (ci, fs.set j v))) s H1 locs1 → W p l e R s m args below meth c H1 locs1 cells slots Q (F0 m (pc + 3) ls rest)) : W p l e R s m args below meth c H locs cells slots Q (F0 m pc ls (v :: .ref (ad k) :: rest)) := by
  refine va_putF (D := G.2.1) (ci := ci) (v := v) (ty := ty0 j) (C := Cn) (T := T) (N := NN) S.1 S.2.1 S.2.2.2.2 hin ty0 hty hnm S.2.2.2.1 hw.2.2.2.1 hw.1 hw.2.1 hw.2.2.1 k (by rw [wl_get hk, hC]) hcl j hj (S.2.2.2.2 _ hlk) (fun _ h9 => h9) hfin hini hdecl (hty j hj) hn hfit hl hdg (fun H1 locs1 hP hD hS => ?_)
  rw [wl_set _ hk] at hP hD
  exact kk H1 locs1 ⟨hP, hD, hS, hw.2.2.2⟩
/-- arrays -/
theorem g_ald (S : CallFix p m c cc nL s args TB own) (hw : Wg G N ad C s H locs) (k : Nat) (hk : k < N) {n : Nat} {f : Nat → Int32} (hC : C k = .inl (G.2.2.1, n, .inl f)) {i : Int32} (hi : vp_in i n) (hdg : decode cc pc = .ok (.iaload, 1))
    (kk : W p l e R s m args below meth c H locs cells slots Q (F0 m (pc + 1) ls (.int (f i.toNatClampNeg) :: rest))) : W p l e R s m args below meth c H locs cells slots Q (F0 m pc ls (.int i :: .ref (ad k) :: rest)) :=
  va_iald S.1 S.2.1 hw.2.2.2.1 hw.1 k 0 (by rw [wl_get hk, hC]) rfl hi hdg kk
theorem g_zld (S : CallFix p m c cc nL s args TB own) (hw : Wg G N ad C s H locs) (k : Nat) (hk : k < N) {n : Nat} {f : Nat → Int32} (hC : C k = .inl (G.2.2.2.1, n, .inl f)) {i : Int32} (hi : vp_in i n) (hdg : decode cc pc = .ok (.baload, 1))
    (kk : W p l e R s m args below meth c H locs cells slots Q (F0 m (pc + 1) ls (.int (f i.toNatClampNeg) :: rest))) : W p l e R s m args below meth c H locs cells slots Q (F0 m pc ls (.int i :: .ref (ad k) :: rest)) :=
  va_zald S.1 S.2.1 hw.2.2.2.1 hw.1 k 1 (by rw [wl_get hk, hC]) rfl hi hdg kk
theorem g_ast (S : CallFix p m c cc nL s args TB own) (hw : Wg G N ad C s H locs) (k : Nat) (hk : k < N) {n : Nat} {f : Nat → Int32} (hC : C k = .inl (G.2.2.1, n, .inl f)) {i x : Int32} (hi : vp_in i n) (hdg : decode cc pc = .ok (.iastore, 1))
    (kk : ∀ (H1 : Heap) (locs1 : List Loc), Wg G N ad (va_up C k (.inl (G.2.2.1, n, .inl (upd f i.toNatClampNeg x)))) s H1 locs1 → W p l e R s m args below meth c H1 locs1 cells slots Q (F0 m (pc + 1) ls rest)) : W p l e R s m args below meth c H locs cells slots Q (F0 m pc ls (.int x :: .int i :: .ref (ad k) :: rest)) := by
  refine va_iast S.1 S.2.1 hw.2.2.2.1 hw.1 hw.2.1 hw.2.2.1 k 0 (by rw [wl_get hk, hC]) rfl hi hdg (fun H1 locs1 hP hD hS => ?_)
  rw [wl_set _ hk] at hP hD
  exact kk H1 locs1 ⟨hP, hD, hS, hw.2.2.2⟩
theorem g_zst (S : CallFix p m c cc nL s args TB own) (hw : Wg G N ad C s H locs) (k : Nat) (hk : k < N) {n : Nat} {f : Nat → Int32} (hC : C k = .inl (G.2.2.2.1, n, .inl f)) {i x : Int32} (hi : vp_in i n) (hx : vp_nar .boolean x = x) (hdg : decode cc pc = .ok (.bastore, 1))
    (kk : ∀ (H1 : Heap) (locs1 : List Loc), Wg G N ad (va_up C k (.inl (G.2.2.2.1, n, .inl (upd f i.toNatClampNeg x)))) s H1 locs1 → W p l e R s m args below meth c H1 locs1 cells slots Q (F0 m (pc + 1) ls rest)) : W p l e R s m args below meth c H locs cells slots Q (F0 m pc ls (.int x :: .int i :: .ref (ad k) :: rest)) := by
  refine va_zast S.1 S.2.1 hw.2.2.2.1 hw.1 hw.2.1 hw.2.2.1 k 1 (by rw [wl_get hk, hC]) rfl hi hdg (fun H1 locs1 hP hD hS => ?_)
  rw [wl_set _ hk, hx] at hP hD
  exact kk H1 locs1 ⟨hP, hD, hS, hw.2.2.2⟩
theorem g_len (S : CallFix p m c cc nL s args TB own) (hw : Wg G N ad C s H locs) (k : Nat) (hk : k < N) {cA : ClassId} {x : vp_A} (hC : C k = .inl (cA, x)) (t0 : Nat) {ty : FieldType} (ht : (tysG G)[t0]? = some (cA, ty)) (hdg : decode cc pc = .ok (.arraylength, 1))
    (kk : W p l e R s m args below meth c H locs cells slots Q (F0 m (pc + 1) ls (.int (nI x.1) :: rest))) : W p l e R s m args below meth c H locs cells slots Q (F0 m pc ls (.ref (ad k) :: rest)) :=
  va_alen S.1 S.2.1 hw.2.2.2.1 hw.1 k t0 (by rw [wl_get hk, hC]) ht rfl hdg kk
end KIT
end
section
/-! CALLS over the flat world -/
theorem blindG {G : GT} {N : Nat} {ad : Nat → Nat} {C : Nat → va_E} {av : List Value} : FrameBlind (va_Pc av (Hg G N ad C)) := fun _ _ _ _ q => ⟨q.1, q.2.blind⟩
section KIT2
variable {p : Program} {l : Launch} {e : Env} {R : Room} {s : State} {m : MethodId} {args : Array Value} {below : List Frame} {meth : Method} {c : Code} {H : Heap} {locs : List Loc} {cells slots : Nat} {Q : State → Prop}
variable {cc : ByteArray} {pc nL : Nat} {ls : Array Slot} {rest st0 : List Value} {own : String} {G : GT} {N : Nat} {ad : Nat → Nat} {C : Nat → va_E}
variable {SS : Type} {fN : SS → Nat} {fa : SS → Nat → Nat} {fC : SS → Nat → va_E} {y : MethodName} {cd : ByteArray} {mL fr lo mc ms index : Nat} {As : List Value}
theorem c_B {ret : Option FieldType} (S : CallFix p m c cc nL s args TB own) (hcode : Cond.code y cd mL ret ∈ TB) (hini : Cond.initialized y.cls ∈ TB) {n : Nat} (hd : y.cls ≠ "java/lang/invoke/MethodHandle" ∧ y.cls ≠ "java/lang/invoke/VarHandle" ∧ (parseMethodDescriptor y.desc).map (fun d => d.parameters.length) = some n) (hlk : Cond.methodLink own index y ∈ TB) (hR : fr + 1 ≤ R.frames ∧ 8 + (mL + 11) + lo ≤ R.locals) :
    CallB R s args own index y cd mL ret (Cond.code y cd mL ret :: TB) { frames := fr, cells := mc, slots := ms, locals := lo } mc ms n :=
  callB_of n S.2.2.2.2 (tbG hcode) rfl rfl rfl (S.2.2.2.2 _ hini) (S.2.2.2.2 _ hlk) hd hR
theorem c_N {ret : Option FieldType} (S : CallFix p m c cc nL s args TB own) (hn : NL s) (hcode : Cond.code y cd mL ret ∈ TB) (hini : Cond.initialized y.cls ∈ TB) {n : Nat} (hd : y.cls ≠ "java/lang/invoke/MethodHandle" ∧ y.cls ≠ "java/lang/invoke/VarHandle" ∧ (parseMethodDescriptor y.desc).map (fun d => d.parameters.length) = some n) (hlk : (own, index, y) ∈ nests) (hR : fr + 1 ≤ R.frames ∧ 8 + (mL + 11) + lo ≤ R.locals) :
    va_CN R s args own index y "OilLine" cd mL ret (Cond.code y cd mL ret :: TB) { frames := fr, cells := mc, slots := ms, locals := lo } mc ms n :=
  va_cnB n S.2.2.2.2 (tbG hcode) rfl rfl rfl (hn.1 _ hlk) (S.2.2.2.2 _ hini) hd hR
theorem g_goI {post : Int32 → SS → Prop} {a : Array Value} (hw : Wg G N ad C s H locs) (hr : va_Run p l e R s m args below meth c H locs cells slots mc ms (F0 m pc ls st0) rest (va_Qi post (fun u t => Hg G (fN u) (fa u) (fC u) t) (fun q => G.1 ≤ q) a) (fun q => G.1 ≤ q))
    (kk : ∀ (r : Int32) (u : SS) (H1 : Heap) (locs1 : List Loc), post r u → Wg G (fN u) (fa u) (fC u) s H1 locs1 → W p l e R s m args below meth c H1 locs1 (cells + mc) (slots + ms) Q (F0 m (pc + 3) ls (.int r :: rest))) : W p l e R s m args below meth c H locs cells slots Q (F0 m pc ls st0) :=
  va_calli hr hw.2.2.1 (fun _ _ h => h) (fun _ h => h) (fun r u t H1 locs1 ht hvm hp hB hz hk hS => kk r u H1 locs1 hp ⟨by rw [← ht]; exact hB.2.1, hB.2.2.1, hS, hw.2.2.2⟩)
theorem g_goV {post : SS → Prop} {a : Array Value} (hw : Wg G N ad C s H locs) (hr : va_Run p l e R s m args below meth c H locs cells slots mc ms (F0 m pc ls st0) rest (va_Qv post (fun u t => Hg G (fN u) (fa u) (fC u) t) (fun q => G.1 ≤ q) a) (fun q => G.1 ≤ q))
    (kk : ∀ (u : SS) (H1 : Heap) (locs1 : List Loc), post u → Wg G (fN u) (fa u) (fC u) s H1 locs1 → W p l e R s m args below meth c H1 locs1 (cells + mc) (slots + ms) Q (F0 m (pc + 3) ls rest)) : W p l e R s m args below meth c H locs cells slots Q (F0 m pc ls st0) :=
  va_callv hr hw.2.2.1 (fun _ _ h => h) (fun _ h => h) (fun u t H1 locs1 ht hvm hp hB hz hk hS => kk u H1 locs1 hp ⟨by rw [← ht]; exact hB.2.1, hB.2.2.1, hS, hw.2.2.2⟩)
theorem g_recv (hw : Wg G N ad C s H locs) (k : Nat) (hk : k < N) {ci : Nat} {fs : List Value} (hC : C k = .inr (ci, fs)) {Cn : String} {T : u_T} {NN : Nat} (hcl : vwCl[ci]? = some (Cn, T, NN)) : ∃ cell : Cell, H[ad k]? = some cell ∧ cell.vm.isStatics = false ∧ s.vm.findClass Cn = some cell.cls :=
  va_recv (q := (Cn, T, NN)) hw.2.2.2.1 hw.1 hcl (q0 := k) (fs := fs) (by rw [wl_get hk, hC])
/-- invokevirtual, an int back -/
theorem g_cVI {ty : FieldType} {post : Int32 → SS → Prop} (S : CallFix p m c cc nL s args TB own) (hw : Wg G N ad C s H locs) (k : Nat) (hk : k < N) {ci : Nat} {fs : List Value} (hC : C k = .inr (ci, fs)) {Cn : String} {T : u_T} {NN : Nat} (hcl : vwCl[ci]? = some (Cn, T, NN))
    (hM : Met l y (.code y cd mL (some ty) :: TB) { frames := fr, cells := mc, slots := ms, locals := lo } (va_Pc (.ref (ad k) :: As) (Hg G N ad C)) (va_Qi post (fun u t => Hg G (fN u) (fa u) (fC u) t) (fun q => G.1 ≤ q)) mc ms (fun q => G.1 ≤ q))
    (mf : MFv y cd mL (some ty) Cn As.length) (hlk : Cond.methodLink own index y ∈ TB) (hR : fr + 1 ≤ R.frames ∧ 8 + (mL + 11) + lo ≤ R.locals) (hcs : cells + mc ≤ R.cells ∧ slots + ms ≤ R.slots) (hls : ls.size = nL) (hst : st0 = As.reverse ++ .ref (ad k) :: rest) (hrest : (rest.map fun v => v.category).sum ≤ 8) (hdg : decode cc pc = .ok (.invokevirtual index, 3))
    (kk : ∀ (r : Int32) (u : SS) (H1 : Heap) (locs1 : List Loc), post r u → Wg G (fN u) (fa u) (fC u) s H1 locs1 → W p l e R s m args below meth c H1 locs1 (cells + mc) (slots + ms) Q (F0 m (pc + 3) ls (.int r :: rest))) : W p l e R s m args below meth c H locs cells slots Q (F0 m pc ls st0) := by
  subst hst
  exact g_goI hw (va_runV (As := As) (rest := rest) (b := ad k) S hM ⟨c_B S mf.1 mf.2.2.2.1 mf.2.2.2.2 hlk hR, S.2.2.2.2 _ mf.2.1, S.2.2.2.2 _ mf.2.2.1⟩ ⟨blindG, g_recv hw k hk hC hcl, fun U hU hW => ⟨rfl, hw.at hU hW⟩⟩ rfl rfl hls rfl (lv_room hrest) hdg hcs) kk
theorem g_cVV {post : SS → Prop} (S : CallFix p m c cc nL s args TB own) (hw : Wg G N ad C s H locs) (k : Nat) (hk : k < N) {ci : Nat} {fs : List Value} (hC : C k = .inr (ci, fs)) {Cn : String} {T : u_T} {NN : Nat} (hcl : vwCl[ci]? = some (Cn, T, NN))
    (hM : Met l y (.code y cd mL none :: TB) { frames := fr, cells := mc, slots := ms, locals := lo } (va_Pc (.ref (ad k) :: As) (Hg G N ad C)) (va_Qv post (fun u t => Hg G (fN u) (fa u) (fC u) t) (fun q => G.1 ≤ q)) mc ms (fun q => G.1 ≤ q))
    (mf : MFv y cd mL none Cn As.length) (hlk : Cond.methodLink own index y ∈ TB) (hR : fr + 1 ≤ R.frames ∧ 8 + (mL + 11) + lo ≤ R.locals) (hcs : cells + mc ≤ R.cells ∧ slots + ms ≤ R.slots) (hls : ls.size = nL) (hst : st0 = As.reverse ++ .ref (ad k) :: rest) (hrest : (rest.map fun v => v.category).sum ≤ 8) (hdg : decode cc pc = .ok (.invokevirtual index, 3))
    (kk : ∀ (u : SS) (H1 : Heap) (locs1 : List Loc), post u → Wg G (fN u) (fa u) (fC u) s H1 locs1 → W p l e R s m args below meth c H1 locs1 (cells + mc) (slots + ms) Q (F0 m (pc + 3) ls rest)) : W p l e R s m args below meth c H locs cells slots Q (F0 m pc ls st0) := by
  subst hst
  exact g_goV hw (va_runV (As := As) (rest := rest) (b := ad k) S hM ⟨c_B S mf.1 mf.2.2.2.1 mf.2.2.2.2 hlk hR, S.2.2.2.2 _ mf.2.1, S.2.2.2.2 _ mf.2.2.1⟩ ⟨blindG, g_recv hw k hk hC hcl, fun U hU hW => ⟨rfl, hw.at hU hW⟩⟩ rfl rfl hls rfl (lv_room hrest) hdg hcs) kk
/-- invokestatic -/
theorem g_cSI {ty : FieldType} {post : Int32 → SS → Prop} (S : CallFix p m c cc nL s args TB own) (hw : Wg G N ad C s H locs)
    (hM : Met l y (.code y cd mL (some ty) :: TB) { frames := fr, cells := mc, slots := ms, locals := lo } (va_Pc As (Hg G N ad C)) (va_Qi post (fun u t => Hg G (fN u) (fa u) (fC u) t) (fun q => G.1 ≤ q)) mc ms (fun q => G.1 ≤ q))
    (mf : MFs y cd mL (some ty) As.length) (hlk : Cond.methodLink own index y ∈ TB) (hR : fr + 1 ≤ R.frames ∧ 8 + (mL + 11) + lo ≤ R.locals) (hcs : cells + mc ≤ R.cells ∧ slots + ms ≤ R.slots) (hls : ls.size = nL) (hst : st0 = As.reverse ++ rest) (hrest : (rest.map fun v => v.category).sum ≤ 8) (hdg : decode cc pc = .ok (.invokestatic index, 3))
    (kk : ∀ (r : Int32) (u : SS) (H1 : Heap) (locs1 : List Loc), post r u → Wg G (fN u) (fa u) (fC u) s H1 locs1 → W p l e R s m args below meth c H1 locs1 (cells + mc) (slots + ms) Q (F0 m (pc + 3) ls (.int r :: rest))) : W p l e R s m args below meth c H locs cells slots Q (F0 m pc ls st0) := by
  subst hst
  exact g_goI hw (va_runS (As := As) (rest := rest) S hM ⟨c_B S mf.1 mf.2.2.1 mf.2.2.2 hlk hR, S.2.2.2.2 _ mf.2.1⟩ ⟨blindG, fun U hU hW => ⟨rfl, hw.at hU hW⟩⟩ rfl rfl hls rfl (lv_room hrest) hdg hcs) kk
theorem g_cSV {post : SS → Prop} (S : CallFix p m c cc nL s args TB own) (hw : Wg G N ad C s H locs)
    (hM : Met l y (.code y cd mL none :: TB) { frames := fr, cells := mc, slots := ms, locals := lo } (va_Pc As (Hg G N ad C)) (va_Qv post (fun u t => Hg G (fN u) (fa u) (fC u) t) (fun q => G.1 ≤ q)) mc ms (fun q => G.1 ≤ q))
    (mf : MFs y cd mL none As.length) (hlk : Cond.methodLink own index y ∈ TB) (hR : fr + 1 ≤ R.frames ∧ 8 + (mL + 11) + lo ≤ R.locals) (hcs : cells + mc ≤ R.cells ∧ slots + ms ≤ R.slots) (hls : ls.size = nL) (hst : st0 = As.reverse ++ rest) (hrest : (rest.map fun v => v.category).sum ≤ 8) (hdg : decode cc pc = .ok (.invokestatic index, 3))
    (kk : ∀ (u : SS) (H1 : Heap) (locs1 : List Loc), post u → Wg G (fN u) (fa u) (fC u) s H1 locs1 → W p l e R s m args below meth c H1 locs1 (cells + mc) (slots + ms) Q (F0 m (pc + 3) ls rest)) : W p l e R s m args below meth c H locs cells slots Q (F0 m pc ls st0) := by
  subst hst
  exact g_goV hw (va_runS (As := As) (rest := rest) S hM ⟨c_B S mf.1 mf.2.2.1 mf.2.2.2 hlk hR, S.2.2.2.2 _ mf.2.1⟩ ⟨blindG, fun U hU hW => ⟨rfl, hw.at hU hW⟩⟩ rfl rfl hls rfl (lv_room hrest) hdg hcs) kk
/-- invokestatic of a nest mate's private method -/
theorem g_cNI {ty : FieldType} {post : Int32 → SS → Prop} (S : CallFix p m c cc nL s args TB own) (hw : Wg G N ad C s H locs)
    (hM : Met l y (.code y cd mL (some ty) :: TB) { frames := fr, cells := mc, slots := ms, locals := lo } (va_Pc As (Hg G N ad C)) (va_Qi post (fun u t => Hg G (fN u) (fa u) (fC u) t) (fun q => G.1 ≤ q)) mc ms (fun q => G.1 ≤ q))
    (mf : MFs y cd mL (some ty) As.length) (hlk : (own, index, y) ∈ nests) (hR : fr + 1 ≤ R.frames ∧ 8 + (mL + 11) + lo ≤ R.locals) (hcs : cells + mc ≤ R.cells ∧ slots + ms ≤ R.slots) (hls : ls.size = nL) (hst : st0 = As.reverse ++ rest) (hrest : (rest.map fun v => v.category).sum ≤ 8) (hdg : decode cc pc = .ok (.invokestatic index, 3))
    (kk : ∀ (r : Int32) (u : SS) (H1 : Heap) (locs1 : List Loc), post r u → Wg G (fN u) (fa u) (fC u) s H1 locs1 → W p l e R s m args below meth c H1 locs1 (cells + mc) (slots + ms) Q (F0 m (pc + 3) ls (.int r :: rest))) : W p l e R s m args below meth c H locs cells slots Q (F0 m pc ls st0) := by
  subst hst
  exact g_goI hw (va_runSN (As := As) (rest := rest) S hM ⟨c_N S hw.2.2.2.2.1 mf.1 mf.2.2.1 mf.2.2.2 hlk hR, S.2.2.2.2 _ mf.2.1, trivial⟩ ⟨blindG, fun U hU hW => ⟨rfl, hw.at hU hW⟩⟩ rfl rfl hls rfl (lv_room hrest) hdg hcs) kk
/-- a constructor -/
theorem g_cI {post : SS → Prop} (S : CallFix p m c cc nL s args TB own) (hw : Wg G N ad C s H locs) {a : Nat}
    (hM : Met l y (.code y cd mL none :: TB) { frames := fr, cells := mc, slots := ms, locals := lo } (va_Pc (.ref a :: As) (Hg G N ad C)) (va_Qv post (fun u t => Hg G (fN u) (fa u) (fC u) t) (fun q => G.1 ≤ q)) mc ms (fun q => G.1 ≤ q))
    (mf : MFi y cd mL As.length) (hlk : Cond.methodLink own index y ∈ TB) (hR : fr + 1 ≤ R.frames ∧ 8 + (mL + 11) + lo ≤ R.locals) (hcs : cells + mc ≤ R.cells ∧ slots + ms ≤ R.slots) (hls : ls.size = nL) (hst : st0 = As.reverse ++ .ref a :: rest) (hrest : (rest.map fun v => v.category).sum ≤ 8) (hdg : decode cc pc = .ok (.invokespecial index, 3))
    (kk : ∀ (u : SS) (H1 : Heap) (locs1 : List Loc), post u → Wg G (fN u) (fa u) (fC u) s H1 locs1 → W p l e R s m args below meth c H1 locs1 (cells + mc) (slots + ms) Q (F0 m (pc + 3) ls rest)) : W p l e R s m args below meth c H locs cells slots Q (F0 m pc ls st0) := by
  subst hst
  exact g_goV hw (va_runI (As := As) (rest := rest) (b := a) S hM ⟨c_B S mf.1 mf.2.2.1 mf.2.2.2.2 hlk hR, mf.2.2.2.1, S.2.2.2.2 _ mf.2.1⟩ ⟨blindG, fun U hU hW => ⟨rfl, hw.at hU hW⟩⟩ rfl rfl hls rfl (lv_room hrest) hdg hcs) kk
theorem g_cIN {post : SS → Prop} (S : CallFix p m c cc nL s args TB own) (hw : Wg G N ad C s H locs) {a : Nat}
    (hM : Met l y (.code y cd mL none :: TB) { frames := fr, cells := mc, slots := ms, locals := lo } (va_Pc (.ref a :: As) (Hg G N ad C)) (va_Qv post (fun u t => Hg G (fN u) (fa u) (fC u) t) (fun q => G.1 ≤ q)) mc ms (fun q => G.1 ≤ q))
    (mf : MFi y cd mL As.length) (hlk : (own, index, y) ∈ nests) (hR : fr + 1 ≤ R.frames ∧ 8 + (mL + 11) + lo ≤ R.locals) (hcs : cells + mc ≤ R.cells ∧ slots + ms ≤ R.slots) (hls : ls.size = nL) (hst : st0 = As.reverse ++ .ref a :: rest) (hrest : (rest.map fun v => v.category).sum ≤ 8) (hdg : decode cc pc = .ok (.invokespecial index, 3))
    (kk : ∀ (u : SS) (H1 : Heap) (locs1 : List Loc), post u → Wg G (fN u) (fa u) (fC u) s H1 locs1 → W p l e R s m args below meth c H1 locs1 (cells + mc) (slots + ms) Q (F0 m (pc + 3) ls rest)) : W p l e R s m args below meth c H locs cells slots Q (F0 m pc ls st0) := by
  subst hst
  exact g_goV hw (va_runIN (As := As) (rest := rest) (b := a) S hM ⟨c_N S hw.2.2.2.2.1 mf.1 mf.2.2.1 mf.2.2.2.2 hlk hR, mf.2.2.2.1, S.2.2.2.2 _ mf.2.1⟩ ⟨blindG, fun U hU hW => ⟨rfl, hw.at hU hW⟩⟩ rfl rfl hls rfl (lv_room hrest) hdg hcs) kk
/-- makings -/
theorem g_new (S : CallFix p m c cc nL s args TB own) (hw : Wg G N ad C s H locs) {Cn : String} {T : u_T} {NN ci : Nat} (hcl : vwCl[ci]? = some (Cn, T, NN)) (hin : ∀ w ∈ u_ws Cn T NN, w ∈ TB) {ty : Nat → FieldType} (hty : ∀ k, k < NN → parseFieldDescriptor (T k).2.2.1 = some (ty k)) (hck : Cond.classLink own index Cn ∈ TB) (hinst : Cond.instantiable Cn NN ∈ TB) (hini : Cond.initialized Cn ∈ TB) {fs : List Value} (hfs : ∀ j, j < NN → defaultValue (ty j) = vp_V fs j) (hcells : cells + 1 ≤ R.cells) (hslots : slots + NN ≤ R.slots) (hdg : decode cc pc = .ok (.new index, 3))
    (kk : ∀ (q : Nat) (H1 : Heap), Wg G (N + 1) (va_up ad N q) (va_up C N (.inr (ci, fs))) s H1 locs → W p l e R s m args below meth c H1 locs (cells + 1) (slots + NN) Q (F0 m (pc + 3) ls (.ref q :: rest))) : W p l e R s m args below meth c H locs cells slots Q (F0 m pc ls rest) := by
  refine va_new (ci := ci) (fs := fs) (C := Cn) (T := T) (N := NN) S.1 S.2.1 S.2.2.2.2 hin ty hty S.2.2.2.1 (S.2.2.2.2 _ hck) (S.2.2.2.2 _ hinst) (S.2.2.2.2 _ hini) hw.2.2.2.1 hw.1 hw.2.1 hw.2.2.1 hw.hA hcl hfs hcells hslots hdg (fun q H1 hP hD hS => ?_)
  rw [wl_push] at hP hD
  exact kk q H1 ⟨hP, hD, hS, hw.2.2.2⟩
theorem g_newI (S : CallFix p m c cc nL s args TB own) (hw : Wg G N ad C s H locs) {n : Int32} {N' : Nat} (hn : ¬ n < 0) (hN : n.toNatClampNeg = N') (hbytes : N' * componentBytes .int ≤ 536870912) (hcells : cells + 1 ≤ R.cells) (hslots : slots + N' ≤ R.slots) {at_ : ArrayType} (hat : newarray.typeOf at_ = .int) (hdg : decode cc pc = .ok (.newarray at_, 2))
    (kk : ∀ (q : Nat) (H1 : Heap), Wg G (N + 1) (va_up ad N q) (va_up C N (.inl (G.2.2.1, N', .inl (fun _ => 0)))) s H1 locs → W p l e R s m args below meth c H1 locs (cells + 1) (slots + N') Q (F0 m (pc + 2) ls (.ref q :: rest))) : W p l e R s m args below meth c H locs cells slots Q (F0 m pc ls (.int n :: rest)) := by
  refine va_newa (a0 := (N', .inl (fun _ => 0))) (ty := .int) S.1 S.2.1 (by rw [hat]; exact S.2.2.2.2 _ wA_I) hat hw.2.2.2.1 hw.1 hw.2.1 hw.2.2.1 hw.hA (fun cA => rfl) hn hN hbytes hcells hslots hdg (fun q cA H1 hK hP hD hS => ?_)
  have e : cA = G.2.2.1 := by
    have h1 := (hK.2 3 (cA, .int) rfl).2
    have h2 := (hw.2.2.2.1.2 0 (G.2.2.1, .int) rfl).2
    exact Option.some.inj ((show s.vm.findClass _ = some cA from h1).symm.trans (show s.vm.findClass _ = some G.2.2.1 from h2))
  subst e
  rw [wl_push] at hP hD
  exact kk q H1 ⟨hP, hD, hS, hw.2.2.2⟩
theorem g_newZ (S : CallFix p m c cc nL s args TB own) (hw : Wg G N ad C s H locs) {n : Int32} {N' : Nat} (hn : ¬ n < 0) (hN : n.toNatClampNeg = N') (hbytes : N' * componentBytes .boolean ≤ 536870912) (hcells : cells + 1 ≤ R.cells) (hslots : slots + N' ≤ R.slots) {at_ : ArrayType} (hat : newarray.typeOf at_ = .boolean) (hdg : decode cc pc = .ok (.newarray at_, 2))
    (kk : ∀ (q : Nat) (H1 : Heap), Wg G (N + 1) (va_up ad N q) (va_up C N (.inl (G.2.2.2.1, N', .inl (fun _ => 0)))) s H1 locs → W p l e R s m args below meth c H1 locs (cells + 1) (slots + N') Q (F0 m (pc + 2) ls (.ref q :: rest))) : W p l e R s m args below meth c H locs cells slots Q (F0 m pc ls (.int n :: rest)) := by
  refine va_newa (a0 := (N', .inl (fun _ => 0))) (ty := .boolean) S.1 S.2.1 (by rw [hat]; exact S.2.2.2.2 _ wA_Z) hat hw.2.2.2.1 hw.1 hw.2.1 hw.2.2.1 hw.hA (fun cA => rfl) hn hN hbytes hcells hslots hdg (fun q cA H1 hK hP hD hS => ?_)
  have e : cA = G.2.2.2.1 := by
    have h1 := (hK.2 3 (cA, .boolean) rfl).2
    have h2 := (hw.2.2.2.1.2 1 (G.2.2.2.1, .boolean) rfl).2
    exact Option.some.inj ((show s.vm.findClass _ = some cA from h1).symm.trans (show s.vm.findClass _ = some G.2.2.2.1 from h2))
  subst e
  rw [wl_push] at hP hD
  exact kk q H1 ⟨hP, hD, hS, hw.2.2.2⟩
theorem g_newM (S : CallFix p m c cc nL s args TB own) (hw : Wg G N ad C s H locs) {n : Int32} {N' : Nat} (hck : Cond.classLink own index "OilLine$Moment" ∈ TB) (hn : ¬ n < 0) (hN : n.toNatClampNeg = N') (hbytes : N' * 4 ≤ 536870912) (hcells : cells + 1 ≤ R.cells) (hslots : slots + N' ≤ R.slots) (hdg : decode cc pc = .ok (.anewarray index, 3))
    (kk : ∀ (q : Nat) (H1 : Heap), Wg G (N + 1) (va_up ad N q) (va_up C N (.inl (G.2.2.2.2, N', .inr (.inr (.inr (.inr (fun _ => none))))))) s H1 locs → W p l e R s m args below meth c H1 locs (cells + 1) (slots + N') Q (F0 m (pc + 3) ls (.ref q :: rest))) : W p l e R s m args below meth c H locs cells slots Q (F0 m pc ls (.int n :: rest)) := by
  refine va_newq S.1 S.2.1 S.2.2.2.1 (S.2.2.2.2 _ hck) hw.2.2.2.2.1.2 hw.2.2.2.1 hw.1 hw.2.1 hw.2.2.1 hw.hA hn hN hbytes hcells hslots hdg (fun q cA H1 hK hP hD hS => ?_)
  have e : cA = G.2.2.2.2 := by
    obtain ⟨_, _, -, -, -, h1⟩ := (hK.2 3 (cA, .object "OilLine$Moment") rfl).2
    obtain ⟨_, _, -, -, -, h2⟩ := (hw.2.2.2.1.2 2 (G.2.2.2.2, .object "OilLine$Moment") rfl).2
    exact Option.some.inj (h1.symm.trans h2)
  subst e
  rw [wl_push] at hP hD
  exact kk q H1 ⟨hP, hD, hS, hw.2.2.2⟩
/-- the array of references -/
theorem g_qld (S : CallFix p m c cc nL s args TB own) (hw : Wg G N ad C s H locs) (k : Nat) (hk : k < N) {n : Nat} {f : Nat → Option Nat} (hC : C k = .inl (G.2.2.2.2, n, .inr (.inr (.inr (.inr f))))) {i : Int32} (hi : vp_in i n) (hdg : decode cc pc = .ok (.aaload, 1))
    (kk : W p l e R s m args below meth c H locs cells slots Q (F0 m (pc + 1) ls (va_rf (f i.toNatClampNeg) :: rest))) : W p l e R s m args below meth c H locs cells slots Q (F0 m pc ls (.int i :: .ref (ad k) :: rest)) :=
  va_aldq S.1 S.2.1 hw.2.2.2.1 hw.1 k 2 (by rw [wl_get hk, hC]) rfl hi hdg kk
theorem g_qst (S : CallFix p m c cc nL s args TB own) (hw : Wg G N ad C s H locs) (k : Nat) (hk : k < N) {n : Nat} {f : Nat → Option Nat} (hC : C k = .inl (G.2.2.2.2, n, .inr (.inr (.inr (.inr f))))) (t : Nat) (ht : t < N) {fs : List Value} (hCt : C t = .inr (1, fs)) {i : Int32} (hi : vp_in i n) (hdg : decode cc pc = .ok (.aastore, 1))
    (kk : ∀ (H1 : Heap) (locs1 : List Loc), Wg G N ad (va_up C k (.inl (G.2.2.2.2, n, .inr (.inr (.inr (.inr (va_up f i.toNatClampNeg (some (ad t))))))))) s H1 locs1 → W p l e R s m args below meth c H1 locs1 cells slots Q (F0 m (pc + 1) ls rest)) : W p l e R s m args below meth c H locs cells slots Q (F0 m pc ls (.ref (ad t) :: .int i :: .ref (ad k) :: rest)) := by
  refine va_astq (r := (RX1, TX1, 7)) S.1 S.2.1 hw.2.2.2.1 hw.1 hw.2.1 hw.2.2.1 k 2 t 1 (by rw [wl_get hk, hC]) rfl (by rw [wl_get ht, hCt]) rfl hi hdg (fun H1 locs1 hP hD hS => ?_)
  rw [wl_set _ hk] at hP hD
  exact kk H1 locs1 ⟨hP, hD, hS, hw.2.2.2⟩
/-- System.arraycopy of ints -/
theorem g_cpy (S : CallFix p m c cc nL s args TB own) (hls : ls.size = nL) (hlk : Cond.methodLink own index arraycopyName ∈ TB) (hw : Wg G N ad C s H locs) (k0 k1 : Nat) (hk0 : k0 < N) (hk1 : k1 < N) {n0 n1 : Nat} {f g : Nat → Int32} (hC0 : C k0 = .inl (G.2.2.1, n0, .inl f)) (hC1 : C k1 = .inl (G.2.2.1, n1, .inl g)) {sp dp n : Int32} (h1 : ¬ sp < 0) (h2 : ¬ dp < 0) (h3 : ¬ n < 0) (h4 : sp.toNatClampNeg + n.toNatClampNeg ≤ n0) (h5 : dp.toNatClampNeg + n.toNatClampNeg ≤ n1)
    (hframes : 1 ≤ R.frames) (hlocals : (rest.map fun v => v.category).sum + (nativeFrameWords "java/lang/System" "arraycopy" 5 + 11) ≤ R.locals) (hdg : decode cc pc = .ok (.invokestatic index, 3))
    (kk : ∀ (H1 : Heap) (locs1 : List Loc), Wg G N ad (va_up C k1 (.inl (G.2.2.1, n1, .inl (va_cpy f g sp.toNatClampNeg dp.toNatClampNeg n.toNatClampNeg)))) s H1 locs1 → W p l e R s m args below meth c H1 locs1 cells slots Q (F0 m (pc + 3) ls rest)) : W p l e R s m args below meth c H locs cells slots Q (F0 m pc ls (.int n :: .int dp :: .ref (ad k1) :: .int sp :: .ref (ad k0) :: rest)) := by
  refine va_copyi (ty := .int) S.1 S.2.1 (S.2.2.1.trans hls.symm) S.2.2.2.1 (S.2.2.2.2 _ hlk) (S.2.2.2.2 _ wa_acp) (S.2.2.2.2 _ wt_acp) (S.2.2.2.2 _ wn_J10) hw.2.2.2.1 hw.1 hw.2.1 hw.2.2.1 k0 k1 0 0 (by rw [wl_get hk0, hC0]) (by rw [wl_get hk1, hC1]) rfl rfl rfl h1 h2 h3 h4 h5 (fun _ _ => rfl) hframes hlocals hdg (fun H1 locs1 hP hD hS => ?_)
  rw [wl_set _ hk1] at hP hD
  exact kk H1 locs1 ⟨hP, hD, hS, hw.2.2.2⟩
end KIT2
end
section
/-! THE SYSTEM'S CELLS BY NUMBER: 0..33 the class, 20..32 its moment 'now', 34..60 the reference, from 61 on the moments of 'earlier', 13 cells each. A shape: (0, n) ints, (1, n) booleans, (2, n) moments, (3, class, fields: none an int, some t the cell t) -/
def mshp (mb r : Nat) : Nat × Nat × List (Option Nat) := match r with
  | 0 => (3, 1, [none, none, none, some (mb + 1), some (mb + 6), some (mb + 11), some (mb + 12)])
  | 1 => (3, 2, [none, some (mb + 2), some (mb + 3), some (mb + 4), some (mb + 5)])
  | 6 => (3, 4, [some (mb + 7), some (mb + 8), some (mb + 9), some (mb + 10)])
  | 7 => (0, 48, [])
  | 8 => (0, 48, [])
  | 9 => (0, 48, [])
  | 10 => (0, 6, [])
  | 11 => (0, 200, [])
  | 12 => (0, 20, [])
  | _ => (0, 120, [])
def stab : List (Nat × Nat × List (Option Nat)) := [
  (3, 7, [some 1, some 6, some 12, some 17, some 18, some 19, some 20, some 33, none]),
  (3, 5, [some 2, some 3, some 4, some 5]), (1, 64, []), (0, 64, []), (0, 8, []), (0, 24, []),
  (3, 0, [none, some 7, some 8, some 9, some 10, some 11]), (0, 6, []), (0, 6, []), (1, 48, []), (0, 48, []), (0, 48, []),
  (3, 6, [none, some 13, some 14, some 15, some 16]), (0, 20, []), (0, 20, []), (0, 20, []), (0, 20, []),
  (3, 3, [none, none, none, none, none]), (0, 200, []), (0, 200, []),
  mshp 20 0, mshp 20 1, mshp 20 2, mshp 20 3, mshp 20 4, mshp 20 5, mshp 20 6, mshp 20 7, mshp 20 8, mshp 20 9, mshp 20 10, mshp 20 11, mshp 20 12,
  (2, 200, []),
  (3, 8, [none, none, some 35, some 36, some 37, some 38, none, some 39, some 40, some 41, none, some 42, some 43, some 44, some 45, some 46, some 47, some 48, some 49, some 50, some 51, some 52, some 53, some 54, none, none, none, some 55, some 56, some 57, some 58, some 59, some 60, none, none]),
  (0, 120, []), (0, 120, []), (0, 120, []), (0, 120, []), (0, 200, []), (0, 200, []), (0, 200, []),
  (0, 6, []), (0, 6, []), (0, 6, []), (1, 48, []), (0, 48, []), (0, 48, []), (0, 48, []), (0, 48, []), (0, 48, []),
  (1, 64, []), (0, 64, []), (0, 8, []), (0, 24, []), (0, 20, []), (0, 20, []), (0, 20, []), (0, 20, []), (0, 20, []), (0, 180900, [])]
def shp (i : Nat) : Nat × Nat × List (Option Nat) := if i < 61 then stab.getD i (0, 0, []) else mshp (61 + 13 * ((i - 61) / 13)) ((i - 61) % 13)
/-- mb is the first cell of a moment, all of whose cells are there -/
def IsM (N K mb : Nat) : Prop := (mb = 20 ∨ ∃ j, j < K ∧ mb = 61 + 13 * j) ∧ mb + 12 < N
theorem IsM.lt {N K mb : Nat} (h : IsM N K mb) : mb + 12 < N := h.2
theorem isM20 {N K : Nat} (h : 33 ≤ N) : IsM N K 20 := ⟨Or.inl rfl, by omega⟩
theorem isMj {K j : Nat} (h : j < K) : IsM (61 + 13 * K) K (61 + 13 * j) := ⟨Or.inr ⟨j, h, rfl⟩, by omega⟩
theorem IsM.sh {N K mb : Nat} (h : IsM N K mb) (r : Nat) (hr : r < 13) : shp (mb + r) = mshp mb r := by
  rcases h.1 with rfl | ⟨j, hj, rfl⟩
  · rcases (show r = 0 ∨ r = 1 ∨ r = 2 ∨ r = 3 ∨ r = 4 ∨ r = 5 ∨ r = 6 ∨ r = 7 ∨ r = 8 ∨ r = 9 ∨ r = 10 ∨ r = 11 ∨ r = 12 by omega) with rfl | rfl | rfl | rfl | rfl | rfl | rfl | rfl | rfl | rfl | rfl | rfl | rfl <;> rfl
  · unfold shp
    rw [if_neg (by omega), show (61 + 13 * j + r - 61) / 13 = j by omega, show (61 + 13 * j + r - 61) % 13 = r by omega]
def flds (ad : Nat → Nat) (f : Nat → Int32) (l : List (Option Nat)) : List Value := l.zipIdx.map (fun q => match q.1 with
  | none => Value.int (f q.2)
  | some t => Value.ref (ad t))
theorem flds_len (ad : Nat → Nat) (f : Nat → Int32) (l : List (Option Nat)) : (flds ad f l).length = l.length := by simp [flds]
theorem flds_I {ad : Nat → Nat} {f : Nat → Int32} {l : List (Option Nat)} {j : Nat} (h : l[j]? = some none) : (flds ad f l)[j]? = some (.int (f j)) := by
  simp [flds, List.getElem?_zipIdx, h]
theorem flds_R {ad : Nat → Nat} {f : Nat → Int32} {l : List (Option Nat)} {j t : Nat} (h : l[j]? = some (some t)) : (flds ad f l)[j]? = some (.ref (ad t)) := by
  simp [flds, List.getElem?_zipIdx, h]
theorem flds_set {ad : Nat → Nat} {f : Nat → Int32} {l : List (Option Nat)} {j : Nat} (x : Int32) (h : l[j]? = some none) : (flds ad f l).set j (.int x) = flds ad (upd f j x) l := by
  have hl : j < l.length := (List.getElem?_eq_some_iff.mp h).1
  apply List.ext_getElem?
  intro i
  by_cases hi : i = j
  · subst hi
    rw [List.getElem?_set_self (by rw [flds_len]; exact hl), flds_I h]
    simp [upd]
  · rw [List.getElem?_set_ne (Ne.symm hi)]
    by_cases hl2 : i < l.length
    · cases hv : l[i]? with
      | none => rw [List.getElem?_eq_none_iff] at hv; omega
      | some o =>
        cases o with
        | none => rw [flds_I hv, flds_I hv]; simp [upd, hi]
        | some t => rw [flds_R hv, flds_R hv]
    · rw [List.getElem?_eq_none (by rw [flds_len]; omega), List.getElem?_eq_none (by rw [flds_len]; omega)]
def cellOf (G : GT) (K : Nat) (ad : Nat → Nat) (M : Mem) (i : Nat) : va_E :=
  if (shp i).1 = 0 then .inl (G.2.2.1, (shp i).2.1, .inl (M i))
  else if (shp i).1 = 1 then .inl (G.2.2.2.1, (shp i).2.1, .inl (M i))
  else if (shp i).1 = 2 then .inl (G.2.2.2.2, (shp i).2.1, .inr (.inr (.inr (.inr (fun j => if j < K then some (ad (61 + 13 * j)) else none)))))
  else .inr ((shp i).2.1, flds ad (M i) (shp i).2.2)
theorem cell_I {G : GT} {K : Nat} {ad : Nat → Nat} {M : Mem} {k n : Nat} {l : List (Option Nat)} (h : shp k = (0, n, l)) : cellOf G K ad M k = .inl (G.2.2.1, n, .inl (M k)) := by simp [cellOf, h]
theorem cell_Z {G : GT} {K : Nat} {ad : Nat → Nat} {M : Mem} {k n : Nat} {l : List (Option Nat)} (h : shp k = (1, n, l)) : cellOf G K ad M k = .inl (G.2.2.2.1, n, .inl (M k)) := by simp [cellOf, h]
theorem cell_Q {G : GT} {K : Nat} {ad : Nat → Nat} {M : Mem} {k n : Nat} {l : List (Option Nat)} (h : shp k = (2, n, l)) : cellOf G K ad M k = .inl (G.2.2.2.2, n, .inr (.inr (.inr (.inr (fun j => if j < K then some (ad (61 + 13 * j)) else none))))) := by simp [cellOf, h]
theorem cell_O {G : GT} {K : Nat} {ad : Nat → Nat} {M : Mem} {k n : Nat} {l : List (Option Nat)} (h : shp k = (3, n, l)) : cellOf G K ad M k = .inr (n, flds ad (M k) l) := by simp [cellOf, h]
theorem cell_up (G : GT) (K : Nat) (ad : Nat → Nat) (M : Mem) (k : Nat) (g : Nat → Int32) {x : va_E} (hx : cellOf G K ad (va_up M k g) k = x) : va_up (cellOf G K ad M) k x = cellOf G K ad (va_up M k g) := by
  funext i
  by_cases hi : i = k
  · subst hi
    rw [va_up_self, hx]
  · rw [va_up_ne _ _ hi]
    simp only [cellOf, va_up_ne _ _ hi]
abbrev HdM (G : GT) (N K : Nat) (ad : Nat → Nat) (M : Mem) (U : State) : Prop := Hg G N ad (cellOf G K ad M) U
abbrev Wd (G : GT) (N K : Nat) (ad : Nat → Nat) (M : Mem) (s : State) (H : Heap) (locs : List Loc) : Prop := Wg G N ad (cellOf G K ad M) s H locs
/-- contracts of methods that make nothing -/
abbrev CmI (l : Launch) (G : GT) (N K : Nat) (ad : Nat → Nat) (y : MethodName) (cd : ByteArray) (mL : Nat) (ty : FieldType) (fr lo : Nat) (av : List Value) (M : Mem) (post : Int32 → Mem → Prop) : Prop := Met l y (.code y cd mL (some ty) :: TB) { frames := fr, cells := 0, slots := 0, locals := lo } (va_Pc av (HdM G N K ad M)) (va_Qi post (fun u t => HdM G N K ad u t) (fun q => G.1 ≤ q)) 0 0 (fun q => G.1 ≤ q)
abbrev CmV (l : Launch) (G : GT) (N K : Nat) (ad : Nat → Nat) (y : MethodName) (cd : ByteArray) (mL : Nat) (fr lo : Nat) (av : List Value) (M : Mem) (post : Mem → Prop) : Prop := Met l y (.code y cd mL none :: TB) { frames := fr, cells := 0, slots := 0, locals := lo } (va_Pc av (HdM G N K ad M)) (va_Qv post (fun u t => HdM G N K ad u t) (fun q => G.1 ≤ q)) 0 0 (fun q => G.1 ≤ q)
/-- a walk's end, in a method that makes nothing -/
abbrev QmI (G : GT) (N K : Nat) (ad : Nat → Nat) (post : Int32 → Mem → Prop) (below : List Frame) (args : Array Value) (s : State) : State → Prop := MQ below (va_Qi post (fun u t => HdM G N K ad u t) (fun q => G.1 ≤ q)) args s 0 0 (fun q => G.1 ≤ q)
abbrev QmV (G : GT) (N K : Nat) (ad : Nat → Nat) (post : Mem → Prop) (below : List Frame) (args : Array Value) (s : State) : State → Prop := MQ below (va_Qv post (fun u t => HdM G N K ad u t) (fun q => G.1 ≤ q)) args s 0 0 (fun q => G.1 ≤ q)
section MEM
variable {p : Program} {l : Launch} {e : Env} {R : Room} {s : State} {m : MethodId} {args : Array Value} {below : List Frame} {meth : Method} {c : Code} {H : Heap} {locs : List Loc} {cells slots : Nat} {Q : State → Prop}
variable {cc : ByteArray} {pc nL : Nat} {ls : Array Slot} {rest st0 : List Value} {own : String} {G : GT} {N K : Nat} {ad : Nat → Nat} {M : Mem}
theorem cm_startI {y : MethodName} {cd : ByteArray} {mL fr lo : Nat} {ty : FieldType} {av : List Value} {post : Int32 → Mem → Prop} (hy : plainName y.cls = true) (hn : (lg_sl av).length ≤ mL)
    (body : ∀ (p : Program) (e : Env) (s : State) (m : MethodId) (below : List Frame) (meth : Method) (c : Code) (ls : Array Slot), CallFix p m c cd mL s av.toArray TB y.cls → meth.sig.returnType = some ty → meth.locks = false → Wd G N K ad M s s.heap [] → lv_has ls mL (lv_args 0 av) →
      W p l e { frames := fr, cells := 0, slots := 0, locals := lo } s m av.toArray below meth c s.heap [] 0 0 (QmI G N K ad post below av.toArray s) (F0 m 0 ls [])) : CmI l G N K ad y cd mL ty fr lo av M post := by
  refine Met.ofW (cc := cd) (maxL := mL) (ret := some ty) hy rfl ?_
  intro p e s m args below meth c s₁ B hml hv
  obtain ⟨rfl, hH⟩ := hv
  have hts := atoms_spec (ws := .code y cd mL (some ty) :: TB) B.pre
  have hl := lv_entry av (n := mL) hn
  rw [lg_entry_eq]
  exact body p e s m below meth c _ ⟨B.exec, B.bytes, hml, findClass_of_methodNamed B.named, fun w hw => hts w (List.mem_cons_of_mem _ hw)⟩ B.returns B.notSynchronized hH.start hl
theorem cm_startV {y : MethodName} {cd : ByteArray} {mL fr lo : Nat} {av : List Value} {post : Mem → Prop} (hy : plainName y.cls = true) (hn : (lg_sl av).length ≤ mL)
    (body : ∀ (p : Program) (e : Env) (s : State) (m : MethodId) (below : List Frame) (meth : Method) (c : Code) (ls : Array Slot), CallFix p m c cd mL s av.toArray TB y.cls → meth.sig.returnType = none → meth.locks = false → Wd G N K ad M s s.heap [] → lv_has ls mL (lv_args 0 av) →
      W p l e { frames := fr, cells := 0, slots := 0, locals := lo } s m av.toArray below meth c s.heap [] 0 0 (QmV G N K ad post below av.toArray s) (F0 m 0 ls [])) : CmV l G N K ad y cd mL fr lo av M post := by
  refine Met.ofW (cc := cd) (maxL := mL) (ret := none) hy rfl ?_
  intro p e s m args below meth c s₁ B hml hv
  obtain ⟨rfl, hH⟩ := hv
  have hts := atoms_spec (ws := .code y cd mL none :: TB) B.pre
  have hl := lv_entry av (n := mL) hn
  rw [lg_entry_eq]
  exact body p e s m below meth c _ ⟨B.exec, B.bytes, hml, findClass_of_methodNamed B.named, fun w hw => hts w (List.mem_cons_of_mem _ hw)⟩ B.returns B.notSynchronized hH.start hl
theorem m_reti {post : Int32 → Mem → Prop} {v : Int32} (S : CallFix p m c cc nL s args TB own) (hr : meth.sig.returnType = some .int) (hlocks : meth.locks = false) (hw : Wd G N K ad M s H locs) (hdg : decode cc pc = .ok (.ireturn, 1)) (hp : post v M) :
    W p l e R s m args below meth c H locs 0 0 (QmI G N K ad post below args s) (F0 m pc ls [.int v]) :=
  W.iret (v := v) S.1 S.2.1 hr (fun t ht hW => ⟨⟨v, M, rfl, hp, hw.at ht hW⟩, hw.2.2.1.F ht⟩) hw.2.2.1.2.2 hdg hlocks
theorem m_retz {post : Int32 → Mem → Prop} {v : Int32} (S : CallFix p m c cc nL s args TB own) (hr : meth.sig.returnType = some .boolean) (hlocks : meth.locks = false) (hw : Wd G N K ad M s H locs) (hdg : decode cc pc = .ok (.ireturn, 1)) (hn : narrow .boolean (.int v) = .int v) (hp : post v M) :
    W p l e R s m args below meth c H locs 0 0 (QmI G N K ad post below args s) (F0 m pc ls [.int v]) :=
  W.zret (v := v) S.1 S.2.1 hr hn (fun t ht hW => ⟨⟨v, M, rfl, hp, hw.at ht hW⟩, hw.2.2.1.F ht⟩) hw.2.2.1.2.2 hdg hlocks
theorem m_retv {post : Mem → Prop} (S : CallFix p m c cc nL s args TB own) (hr : meth.sig.returnType = none) (hlocks : meth.locks = false) (hw : Wd G N K ad M s H locs) (hdg : decode cc pc = .ok (.return_, 1)) (hp : post M) :
    W p l e R s m args below meth c H locs 0 0 (QmV G N K ad post below args s) (F0 m pc ls []) :=
  W.vret S.1 S.2.1 hr (fun t ht hW => ⟨⟨M, rfl, hp, hw.at ht hW⟩, hw.2.2.1.F ht⟩) hw.2.2.1.2.2 hdg hlocks
theorem m_getI (k j : Nat) (S : CallFix p m c cc nL s args TB own) (hw : Wd G N K ad M s H locs) (hk : k < N) {ci : Nat} {fl : List (Option Nat)} (hsh : shp k = (3, ci, fl)) (hfl : fl[j]? = some none) {Cn : String} {T : u_T} {NN : Nat} (hcl : vwCl[ci]? = some (Cn, T, NN)) (hin : ∀ w ∈ u_ws Cn T NN, w ∈ TB) (hj : j < NN) {index : Nat} (hlk : Cond.fieldLink own index (T j).1 (T j).2.1 (T j).2.2.1 ∈ TB) (hdg : decode cc pc = .ok (.getfield index, 3))
    (kk : W p l e R s m args below meth c H locs cells slots Q (F0 m (pc + 3) ls (.int (M k j) :: rest))) : W p l e R s m args below meth c H locs cells slots Q (F0 m pc ls (.ref (ad k) :: rest)) :=
  g_get S hw k hk (cell_O hsh) hcl hin j hj hlk (flds_I hfl) hdg kk
theorem m_getR (k j t : Nat) (S : CallFix p m c cc nL s args TB own) (hw : Wd G N K ad M s H locs) (hk : k < N) {ci : Nat} {fl : List (Option Nat)} (hsh : shp k = (3, ci, fl)) (hfl : fl[j]? = some (some t)) {Cn : String} {T : u_T} {NN : Nat} (hcl : vwCl[ci]? = some (Cn, T, NN)) (hin : ∀ w ∈ u_ws Cn T NN, w ∈ TB) (hj : j < NN) {index : Nat} (hlk : Cond.fieldLink own index (T j).1 (T j).2.1 (T j).2.2.1 ∈ TB) (hdg : decode cc pc = .ok (.getfield index, 3))
    (kk : W p l e R s m args below meth c H locs cells slots Q (F0 m (pc + 3) ls (.ref (ad t) :: rest))) : W p l e R s m args below meth c H locs cells slots Q (F0 m pc ls (.ref (ad k) :: rest)) :=
  g_get S hw k hk (cell_O hsh) hcl hin j hj hlk (flds_R hfl) hdg kk
theorem m_putI (k j : Nat) (S : CallFix p m c cc nL s args TB own) (hw : Wd G N K ad M s H locs) (hk : k < N) {ci : Nat} {fl : List (Option Nat)} (hsh : shp k = (3, ci, fl)) (hfl : fl[j]? = some none) {Cn : String} {T : u_T} {NN : Nat} (hcl : vwCl[ci]? = some (Cn, T, NN)) (hin : ∀ w ∈ u_ws Cn T NN, w ∈ TB) {ty0 : Nat → FieldType} (hty : ∀ k, k < NN → parseFieldDescriptor (T k).2.2.1 = some (ty0 k)) (hnm : ∀ a, a < NN → ∀ b, b < NN → a ≠ b → (T a).2.1 ≠ (T b).2.1) (hj : j < NN) (hti : ty0 j = .int) (hfin : (T j).2.2.2 = false) {index : Nat} (hlk : Cond.fieldLink own index (T j).1 (T j).2.1 (T j).2.2.1 ∈ TB) {x : Int32} (hdg : decode cc pc = .ok (.putfield index, 3))
    (kk : ∀ (H1 : Heap) (locs1 : List Loc), Wd G N K ad (va_up M k (upd (M k) j x)) s H1 locs1 → W p l e R s m args below meth c H1 locs1 cells slots Q (F0 m (pc + 3) ls rest)) : W p l e R s m args below meth c H locs cells slots Q (F0 m pc ls (.int x :: .ref (ad k) :: rest)) := by
  refine g_put S hw k hk (cell_O hsh) hcl hin hty hnm j hj hlk hfin (by rw [hti]; rfl) (by rw [hti]; rfl) (by rw [flds_len]; exact (List.getElem?_eq_some_iff.mp hfl).1) hdg (fun H1 locs1 h => kk H1 locs1 ?_)
  rw [flds_set x hfl] at h
  rw [cell_up G K ad M k (upd (M k) j x) (by rw [cell_O hsh, va_up_self])] at h
  exact h
theorem m_ald (k j : Nat) (S : CallFix p m c cc nL s args TB own) (hw : Wd G N K ad M s H locs) (hk : k < N) {n : Nat} (hsh : shp k = (0, n, [])) (hn : n < 2 ^ 31) (hj : j < n) {i : Int32} (hi : i = nI j) (hdg : decode cc pc = .ok (.iaload, 1))
    (kk : W p l e R s m args below meth c H locs cells slots Q (F0 m (pc + 1) ls (.int (M k j) :: rest))) : W p l e R s m args below meth c H locs cells slots Q (F0 m pc ls (.int i :: .ref (ad k) :: rest)) := by
  subst hi
  refine g_ald S hw k hk (cell_I hsh) (vp_in_nI hj hn) hdg ?_
  rw [nI_clamp (by omega)]
  exact kk
theorem m_zld (k j : Nat) (S : CallFix p m c cc nL s args TB own) (hw : Wd G N K ad M s H locs) (hk : k < N) {n : Nat} (hsh : shp k = (1, n, [])) (hn : n < 2 ^ 31) (hj : j < n) {i : Int32} (hi : i = nI j) (hdg : decode cc pc = .ok (.baload, 1))
    (kk : W p l e R s m args below meth c H locs cells slots Q (F0 m (pc + 1) ls (.int (M k j) :: rest))) : W p l e R s m args below meth c H locs cells slots Q (F0 m pc ls (.int i :: .ref (ad k) :: rest)) := by
  subst hi
  refine g_zld S hw k hk (cell_Z hsh) (vp_in_nI hj hn) hdg ?_
  rw [nI_clamp (by omega)]
  exact kk
theorem m_ast (k j : Nat) (S : CallFix p m c cc nL s args TB own) (hw : Wd G N K ad M s H locs) (hk : k < N) {n : Nat} (hsh : shp k = (0, n, [])) (hn : n < 2 ^ 31) (hj : j < n) {i x : Int32} (hi : i = nI j) (hdg : decode cc pc = .ok (.iastore, 1))
    (kk : ∀ (H1 : Heap) (locs1 : List Loc), Wd G N K ad (va_up M k (upd (M k) j x)) s H1 locs1 → W p l e R s m args below meth c H1 locs1 cells slots Q (F0 m (pc + 1) ls rest)) : W p l e R s m args below meth c H locs cells slots Q (F0 m pc ls (.int x :: .int i :: .ref (ad k) :: rest)) := by
  subst hi
  refine g_ast S hw k hk (cell_I hsh) (vp_in_nI hj hn) hdg (fun H1 locs1 h => kk H1 locs1 ?_)
  rw [nI_clamp (by omega), cell_up G K ad M k (upd (M k) j x) (by rw [cell_I hsh, va_up_self])] at h
  exact h
theorem m_zst (k j : Nat) (S : CallFix p m c cc nL s args TB own) (hw : Wd G N K ad M s H locs) (hk : k < N) {n : Nat} (hsh : shp k = (1, n, [])) (hn : n < 2 ^ 31) (hj : j < n) {i x : Int32} (hi : i = nI j) (hx : vp_nar .boolean x = x) (hdg : decode cc pc = .ok (.bastore, 1))
    (kk : ∀ (H1 : Heap) (locs1 : List Loc), Wd G N K ad (va_up M k (upd (M k) j x)) s H1 locs1 → W p l e R s m args below meth c H1 locs1 cells slots Q (F0 m (pc + 1) ls rest)) : W p l e R s m args below meth c H locs cells slots Q (F0 m pc ls (.int x :: .int i :: .ref (ad k) :: rest)) := by
  subst hi
  refine g_zst S hw k hk (cell_Z hsh) (vp_in_nI hj hn) hx hdg (fun H1 locs1 h => kk H1 locs1 ?_)
  rw [nI_clamp (by omega), cell_up G K ad M k (upd (M k) j x) (by rw [cell_Z hsh, va_up_self])] at h
  exact h
theorem m_cpy (k0 k1 sp dp n : Nat) {index : Nat} (S : CallFix p m c cc nL s args TB own) (hls : ls.size = nL) (hlk : Cond.methodLink own index arraycopyName ∈ TB) (hw : Wd G N K ad M s H locs) (hk0 : k0 < N) (hk1 : k1 < N) {n0 n1 : Nat} (hs0 : shp k0 = (0, n0, [])) (hs1 : shp k1 = (0, n1, [])) (hn0 : n0 < 2 ^ 31) (hn1 : n1 < 2 ^ 31) {isp idp i : Int32} (h1 : isp = nI sp) (h2 : idp = nI dp) (h3 : i = nI n) (h4 : sp + n ≤ n0) (h5 : dp + n ≤ n1)
    (hframes : 1 ≤ R.frames) (hlocals : (rest.map fun v => v.category).sum + (nativeFrameWords "java/lang/System" "arraycopy" 5 + 11) ≤ R.locals) (hdg : decode cc pc = .ok (.invokestatic index, 3))
    (kk : ∀ (H1 : Heap) (locs1 : List Loc), Wd G N K ad (va_up M k1 (va_cpy (M k0) (M k1) sp dp n)) s H1 locs1 → W p l e R s m args below meth c H1 locs1 cells slots Q (F0 m (pc + 3) ls rest)) : W p l e R s m args below meth c H locs cells slots Q (F0 m pc ls (.int i :: .int idp :: .ref (ad k1) :: .int isp :: .ref (ad k0) :: rest)) := by
  subst h1 h2 h3
  refine g_cpy S hls hlk hw k0 k1 hk0 hk1 (cell_I hs0) (cell_I hs1) (nI_pos (by omega)) (nI_pos (by omega)) (nI_pos (by omega)) (by rw [nI_clamp (by omega), nI_clamp (by omega)]; exact h4) (by rw [nI_clamp (by omega), nI_clamp (by omega)]; exact h5) hframes hlocals hdg (fun H1 locs1 h => kk H1 locs1 ?_)
  rw [nI_clamp (by omega), nI_clamp (by omega), nI_clamp (by omega), cell_up G K ad M k1 (va_cpy (M k0) (M k1) sp dp n) (by rw [cell_I hs1, va_up_self])] at h
  exact h
theorem m_len (k : Nat) (S : CallFix p m c cc nL s args TB own) (hw : Wd G N K ad M s H locs) (hk : k < N) {n : Nat} (hsh : shp k = (0, n, [])) (hdg : decode cc pc = .ok (.arraylength, 1))
    (kk : W p l e R s m args below meth c H locs cells slots Q (F0 m (pc + 1) ls (.int (nI n) :: rest))) : W p l e R s m args below meth c H locs cells slots Q (F0 m pc ls (.ref (ad k) :: rest)) :=
  g_len S hw k hk (cell_I hsh) 0 rfl hdg kk
/-- calls of methods that make nothing -/
theorem m_VI (k : Nat) {y : MethodName} {cd : ByteArray} {mL fr lo index : Nat} {ty : FieldType} {As : List Value} {post : Int32 → Mem → Prop} (S : CallFix p m c cc nL s args TB own) (hw : Wd G N K ad M s H locs) (hk : k < N) {ci : Nat} {fl : List (Option Nat)} (hsh : shp k = (3, ci, fl)) {Cn : String} {T : u_T} {NN : Nat} (hcl : vwCl[ci]? = some (Cn, T, NN)) (hM : CmI l G N K ad y cd mL ty fr lo (.ref (ad k) :: As) M post)
    (mf : MFv y cd mL (some ty) Cn As.length) (hlk : Cond.methodLink own index y ∈ TB) (hR : fr + 1 ≤ R.frames ∧ 8 + (mL + 11) + lo ≤ R.locals) (hcs : cells ≤ R.cells ∧ slots ≤ R.slots) (hls : ls.size = nL) (hst : st0 = As.reverse ++ .ref (ad k) :: rest) (hrest : (rest.map fun v => v.category).sum ≤ 8) (hdg : decode cc pc = .ok (.invokevirtual index, 3))
    (kk : ∀ (r : Int32) (M1 : Mem) (H1 : Heap) (locs1 : List Loc), post r M1 → Wd G N K ad M1 s H1 locs1 → W p l e R s m args below meth c H1 locs1 cells slots Q (F0 m (pc + 3) ls (.int r :: rest))) : W p l e R s m args below meth c H locs cells slots Q (F0 m pc ls st0) :=
  g_cVI S hw k hk (cell_O hsh) hcl hM mf hlk hR hcs hls hst hrest hdg kk
theorem m_VV (k : Nat) {y : MethodName} {cd : ByteArray} {mL fr lo index : Nat} {As : List Value} {post : Mem → Prop} (S : CallFix p m c cc nL s args TB own) (hw : Wd G N K ad M s H locs) (hk : k < N) {ci : Nat} {fl : List (Option Nat)} (hsh : shp k = (3, ci, fl)) {Cn : String} {T : u_T} {NN : Nat} (hcl : vwCl[ci]? = some (Cn, T, NN)) (hM : CmV l G N K ad y cd mL fr lo (.ref (ad k) :: As) M post)
    (mf : MFv y cd mL none Cn As.length) (hlk : Cond.methodLink own index y ∈ TB) (hR : fr + 1 ≤ R.frames ∧ 8 + (mL + 11) + lo ≤ R.locals) (hcs : cells ≤ R.cells ∧ slots ≤ R.slots) (hls : ls.size = nL) (hst : st0 = As.reverse ++ .ref (ad k) :: rest) (hrest : (rest.map fun v => v.category).sum ≤ 8) (hdg : decode cc pc = .ok (.invokevirtual index, 3))
    (kk : ∀ (M1 : Mem) (H1 : Heap) (locs1 : List Loc), post M1 → Wd G N K ad M1 s H1 locs1 → W p l e R s m args below meth c H1 locs1 cells slots Q (F0 m (pc + 3) ls rest)) : W p l e R s m args below meth c H locs cells slots Q (F0 m pc ls st0) :=
  g_cVV S hw k hk (cell_O hsh) hcl hM mf hlk hR hcs hls hst hrest hdg kk
theorem m_SI {y : MethodName} {cd : ByteArray} {mL fr lo index : Nat} {ty : FieldType} {As : List Value} {post : Int32 → Mem → Prop} (S : CallFix p m c cc nL s args TB own) (hw : Wd G N K ad M s H locs) (hM : CmI l G N K ad y cd mL ty fr lo As M post)
    (mf : MFs y cd mL (some ty) As.length) (hlk : Cond.methodLink own index y ∈ TB) (hR : fr + 1 ≤ R.frames ∧ 8 + (mL + 11) + lo ≤ R.locals) (hcs : cells ≤ R.cells ∧ slots ≤ R.slots) (hls : ls.size = nL) (hst : st0 = As.reverse ++ rest) (hrest : (rest.map fun v => v.category).sum ≤ 8) (hdg : decode cc pc = .ok (.invokestatic index, 3))
    (kk : ∀ (r : Int32) (M1 : Mem) (H1 : Heap) (locs1 : List Loc), post r M1 → Wd G N K ad M1 s H1 locs1 → W p l e R s m args below meth c H1 locs1 cells slots Q (F0 m (pc + 3) ls (.int r :: rest))) : W p l e R s m args below meth c H locs cells slots Q (F0 m pc ls st0) :=
  g_cSI S hw hM mf hlk hR hcs hls hst hrest hdg kk
theorem m_SV {y : MethodName} {cd : ByteArray} {mL fr lo index : Nat} {As : List Value} {post : Mem → Prop} (S : CallFix p m c cc nL s args TB own) (hw : Wd G N K ad M s H locs) (hM : CmV l G N K ad y cd mL fr lo As M post)
    (mf : MFs y cd mL none As.length) (hlk : Cond.methodLink own index y ∈ TB) (hR : fr + 1 ≤ R.frames ∧ 8 + (mL + 11) + lo ≤ R.locals) (hcs : cells ≤ R.cells ∧ slots ≤ R.slots) (hls : ls.size = nL) (hst : st0 = As.reverse ++ rest) (hrest : (rest.map fun v => v.category).sum ≤ 8) (hdg : decode cc pc = .ok (.invokestatic index, 3))
    (kk : ∀ (M1 : Mem) (H1 : Heap) (locs1 : List Loc), post M1 → Wd G N K ad M1 s H1 locs1 → W p l e R s m args below meth c H1 locs1 cells slots Q (F0 m (pc + 3) ls rest)) : W p l e R s m args below meth c H locs cells slots Q (F0 m pc ls st0) :=
  g_cSV S hw hM mf hlk hR hcs hls hst hrest hdg kk
theorem m_NI {y : MethodName} {cd : ByteArray} {mL fr lo index : Nat} {ty : FieldType} {As : List Value} {post : Int32 → Mem → Prop} (S : CallFix p m c cc nL s args TB own) (hw : Wd G N K ad M s H locs) (hM : CmI l G N K ad y cd mL ty fr lo As M post)
    (mf : MFs y cd mL (some ty) As.length) (hlk : (own, index, y) ∈ nests) (hR : fr + 1 ≤ R.frames ∧ 8 + (mL + 11) + lo ≤ R.locals) (hcs : cells ≤ R.cells ∧ slots ≤ R.slots) (hls : ls.size = nL) (hst : st0 = As.reverse ++ rest) (hrest : (rest.map fun v => v.category).sum ≤ 8) (hdg : decode cc pc = .ok (.invokestatic index, 3))
    (kk : ∀ (r : Int32) (M1 : Mem) (H1 : Heap) (locs1 : List Loc), post r M1 → Wd G N K ad M1 s H1 locs1 → W p l e R s m args below meth c H1 locs1 cells slots Q (F0 m (pc + 3) ls (.int r :: rest))) : W p l e R s m args below meth c H locs cells slots Q (F0 m pc ls st0) :=
  g_cNI S hw hM mf hlk hR hcs hls hst hrest hdg kk
end MEM
end
section
/-! more rows: named memories, numbers, branches over numbers and truths, calls that only read -/
def b01 (b : Bool) : Int32 := if b then 1 else 0
def inB (x : Int32) (n : Nat) : Bool := decide (0 ≤ x.toInt) && decide (x.toInt < (n : Int))
abbrev tn (x : Int32) : Nat := x.toNatClampNeg
theorem tn_nI {n : Nat} (h : n < 2 ^ 31) : tn (nI n) = n := nI_clamp h
theorem b01_n (b : Bool) : narrow .boolean (.int (b01 b)) = .int (b01 b) := by cases b <;> rfl
theorem b01_v (b : Bool) : vp_nar .boolean (b01 b) = b01 b := by cases b <;> rfl
theorem b01_0 {b : Bool} : b01 b = 0 ↔ b = false := by cases b <;> decide
theorem inB_nI {j n : Nat} (h : j < 2 ^ 31) : inB (nI j) n = decide (j < n) := by
  simp only [inB, nI_toInt h]
  by_cases hj : j < n <;> simp [hj] <;> omega
theorem inB_of {x : Int32} {n : Nat} (h : inB x n = true) (hn : n ≤ 2 ^ 31) : ∃ j, j < n ∧ x = nI j := by
  simp only [inB, Bool.and_eq_true, decide_eq_true_eq] at h
  refine ⟨x.toInt.toNat, by omega, ?_⟩
  apply Int32.toInt_inj.mp
  rw [nI_toInt (by omega)]
  omega
/-- nothing outside the cells from lo on to in front of hi has changed -/
def Fr (lo hi : Nat) (M M' : Mem) : Prop := ∀ k, (k < lo ∨ hi ≤ k) → M' k = M k
theorem Fr.rf {lo hi : Nat} {M : Mem} : Fr lo hi M M := fun _ _ => rfl
theorem Fr.up {lo hi : Nat} {M M' : Mem} {k : Nat} {f : Nat → Int32} (h : Fr lo hi M M') (h1 : lo ≤ k) (h2 : k < hi) : Fr lo hi M (va_up M' k f) := fun i hi' => by rw [va_up_ne _ _ (by omega)]; exact h i hi'
theorem Fr.tr {lo hi lo2 hi2 : Nat} {M M' M2 : Mem} (h : Fr lo hi M M') (h2 : Fr lo2 hi2 M' M2) (h3 : lo ≤ lo2) (h4 : hi2 ≤ hi) : Fr lo hi M M2 := fun i hi' => (h2 i (by omega)).trans (h i hi')
theorem Fr.wd {lo hi lo2 hi2 : Nat} {M M' : Mem} (h : Fr lo2 hi2 M M') (h3 : lo ≤ lo2) (h4 : hi2 ≤ hi) : Fr lo hi M M' := fun i hi' => h i (by omega)
section ROWS
variable {p : Program} {l : Launch} {e : Env} {R : Room} {s : State} {m : MethodId} {args : Array Value} {below : List Frame} {meth : Method} {c : Code} {H : Heap} {locs : List Loc} {cells slots : Nat} {Q : State → Prop}
variable {cc : ByteArray} {pc nL : Nat} {ls : Array Slot} {rest st0 : List Value} {own : String} {G : GT} {N K : Nat} {ad : Nat → Nat} {M : Mem}
theorem m_top {x y : Int32} (h : x = y) (k : W p l e R s m args below meth c H locs cells slots Q (F0 m pc ls (.int y :: rest))) : W p l e R s m args below meth c H locs cells slots Q (F0 m pc ls (.int x :: rest)) := h ▸ k
theorem n_putI (k j : Nat) (S : CallFix p m c cc nL s args TB own) (hw : Wd G N K ad M s H locs) (hk : k < N) {ci : Nat} {fl : List (Option Nat)} (hsh : shp k = (3, ci, fl)) (hfl : fl[j]? = some none) {Cn : String} {T : u_T} {NN : Nat} (hcl : vwCl[ci]? = some (Cn, T, NN)) (hin : ∀ w ∈ u_ws Cn T NN, w ∈ TB) {ty0 : Nat → FieldType} (hty : ∀ k, k < NN → parseFieldDescriptor (T k).2.2.1 = some (ty0 k)) (hnm : ∀ a, a < NN → ∀ b, b < NN → a ≠ b → (T a).2.1 ≠ (T b).2.1) (hj : j < NN) (hti : ty0 j = .int) (hfin : (T j).2.2.2 = false) {index : Nat} (hlk : Cond.fieldLink own index (T j).1 (T j).2.1 (T j).2.2.1 ∈ TB) {x : Int32} (hdg : decode cc pc = .ok (.putfield index, 3))
    (kk : ∀ (M1 : Mem) (H1 : Heap) (locs1 : List Loc), M1 = va_up M k (upd (M k) j x) → Wd G N K ad M1 s H1 locs1 → W p l e R s m args below meth c H1 locs1 cells slots Q (F0 m (pc + 3) ls rest)) : W p l e R s m args below meth c H locs cells slots Q (F0 m pc ls (.int x :: .ref (ad k) :: rest)) :=
  m_putI k j S hw hk hsh hfl hcl hin hty hnm hj hti hfin hlk hdg (fun H1 locs1 h => kk _ H1 locs1 rfl h)
theorem n_ast (k j : Nat) (S : CallFix p m c cc nL s args TB own) (hw : Wd G N K ad M s H locs) (hk : k < N) {n : Nat} (hsh : shp k = (0, n, [])) (hn : n < 2 ^ 31) (hj : j < n) {i x : Int32} (hi : i = nI j) (hdg : decode cc pc = .ok (.iastore, 1))
    (kk : ∀ (M1 : Mem) (H1 : Heap) (locs1 : List Loc), M1 = va_up M k (upd (M k) j x) → Wd G N K ad M1 s H1 locs1 → W p l e R s m args below meth c H1 locs1 cells slots Q (F0 m (pc + 1) ls rest)) : W p l e R s m args below meth c H locs cells slots Q (F0 m pc ls (.int x :: .int i :: .ref (ad k) :: rest)) :=
  m_ast k j S hw hk hsh hn hj hi hdg (fun H1 locs1 h => kk _ H1 locs1 rfl h)
theorem n_zst (k j : Nat) (S : CallFix p m c cc nL s args TB own) (hw : Wd G N K ad M s H locs) (hk : k < N) {n : Nat} (hsh : shp k = (1, n, [])) (hn : n < 2 ^ 31) (hj : j < n) {i x : Int32} (hi : i = nI j) (hx : vp_nar .boolean x = x) (hdg : decode cc pc = .ok (.bastore, 1))
    (kk : ∀ (M1 : Mem) (H1 : Heap) (locs1 : List Loc), M1 = va_up M k (upd (M k) j x) → Wd G N K ad M1 s H1 locs1 → W p l e R s m args below meth c H1 locs1 cells slots Q (F0 m (pc + 1) ls rest)) : W p l e R s m args below meth c H locs cells slots Q (F0 m pc ls (.int x :: .int i :: .ref (ad k) :: rest)) :=
  m_zst k j S hw hk hsh hn hj hi hx hdg (fun H1 locs1 h => kk _ H1 locs1 rfl h)
theorem n_cpy (k0 k1 sp dp n : Nat) {index : Nat} (S : CallFix p m c cc nL s args TB own) (hls : ls.size = nL) (hlk : Cond.methodLink own index arraycopyName ∈ TB) (hw : Wd G N K ad M s H locs) (hk0 : k0 < N) (hk1 : k1 < N) {n0 n1 : Nat} (hs0 : shp k0 = (0, n0, [])) (hs1 : shp k1 = (0, n1, [])) (hn0 : n0 < 2 ^ 31) (hn1 : n1 < 2 ^ 31) {isp idp i : Int32} (h1 : isp = nI sp) (h2 : idp = nI dp) (h3 : i = nI n) (h4 : sp + n ≤ n0) (h5 : dp + n ≤ n1)
    (hframes : 1 ≤ R.frames) (hlocals : (rest.map fun v => v.category).sum + (nativeFrameWords "java/lang/System" "arraycopy" 5 + 11) ≤ R.locals) (hdg : decode cc pc = .ok (.invokestatic index, 3))
    (kk : ∀ (M1 : Mem) (H1 : Heap) (locs1 : List Loc), M1 = va_up M k1 (va_cpy (M k0) (M k1) sp dp n) → Wd G N K ad M1 s H1 locs1 → W p l e R s m args below meth c H1 locs1 cells slots Q (F0 m (pc + 3) ls rest)) : W p l e R s m args below meth c H locs cells slots Q (F0 m pc ls (.int i :: .int idp :: .ref (ad k1) :: .int isp :: .ref (ad k0) :: rest)) :=
  m_cpy k0 k1 sp dp n S hls hlk hw hk0 hk1 hs0 hs1 hn0 hn1 h1 h2 h3 h4 h5 hframes hlocals hdg (fun H1 locs1 h => kk _ H1 locs1 rfl h)
/-- branches over numbers -/
theorem n_ge (S : CallFix p m c cc nL s args TB own) {a b : Nat} {off : Int} {tgt : Nat} (ha : a < 2 ^ 31) (hb : b < 2 ^ 31) (hdg : decode cc pc = .ok (.if_icmp .ge off, 3)) (ht : (pc : Int) + off = (tgt : Int)) (kt : b ≤ a → W p l e R s m args below meth c H locs cells slots Q (F0 m tgt ls rest)) (kf : a < b → W p l e R s m args below meth c H locs cells slots Q (F0 m (pc + 3) ls rest)) : W p l e R s m args below meth c H locs cells slots Q (F0 m pc ls (.int (nI b) :: .int (nI a) :: rest)) :=
  lv_icmp_ge S.1 S.2.1 hdg ht (fun h => kt ((nI_leI hb ha).mp h)) (fun h => kf (Nat.not_le.mp fun z => h ((nI_leI hb ha).mpr z)))
theorem n_lt (S : CallFix p m c cc nL s args TB own) {a b : Nat} {off : Int} {tgt : Nat} (ha : a < 2 ^ 31) (hb : b < 2 ^ 31) (hdg : decode cc pc = .ok (.if_icmp .lt off, 3)) (ht : (pc : Int) + off = (tgt : Int)) (kt : a < b → W p l e R s m args below meth c H locs cells slots Q (F0 m tgt ls rest)) (kf : b ≤ a → W p l e R s m args below meth c H locs cells slots Q (F0 m (pc + 3) ls rest)) : W p l e R s m args below meth c H locs cells slots Q (F0 m pc ls (.int (nI b) :: .int (nI a) :: rest)) :=
  lv_icmp_lt S.1 S.2.1 hdg ht (fun h => kt ((nI_ltI ha hb).mp h)) (fun h => kf (Nat.not_lt.mp fun z => h ((nI_ltI ha hb).mpr z)))
theorem n_gt (S : CallFix p m c cc nL s args TB own) {a b : Nat} {off : Int} {tgt : Nat} (ha : a < 2 ^ 31) (hb : b < 2 ^ 31) (hdg : decode cc pc = .ok (.if_icmp .gt off, 3)) (ht : (pc : Int) + off = (tgt : Int)) (kt : b < a → W p l e R s m args below meth c H locs cells slots Q (F0 m tgt ls rest)) (kf : a ≤ b → W p l e R s m args below meth c H locs cells slots Q (F0 m (pc + 3) ls rest)) : W p l e R s m args below meth c H locs cells slots Q (F0 m pc ls (.int (nI b) :: .int (nI a) :: rest)) :=
  lv_icmp_gt S.1 S.2.1 hdg ht (fun h => kt ((nI_ltI hb ha).mp h)) (fun h => kf (Nat.not_lt.mp fun z => h ((nI_ltI hb ha).mpr z)))
theorem n_le (S : CallFix p m c cc nL s args TB own) {a b : Nat} {off : Int} {tgt : Nat} (ha : a < 2 ^ 31) (hb : b < 2 ^ 31) (hdg : decode cc pc = .ok (.if_icmp .le off, 3)) (ht : (pc : Int) + off = (tgt : Int)) (kt : a ≤ b → W p l e R s m args below meth c H locs cells slots Q (F0 m tgt ls rest)) (kf : b < a → W p l e R s m args below meth c H locs cells slots Q (F0 m (pc + 3) ls rest)) : W p l e R s m args below meth c H locs cells slots Q (F0 m pc ls (.int (nI b) :: .int (nI a) :: rest)) :=
  lv_icmp_le S.1 S.2.1 hdg ht (fun h => kt ((nI_leI ha hb).mp h)) (fun h => kf (Nat.not_le.mp fun z => h ((nI_leI ha hb).mpr z)))
theorem n_eq (S : CallFix p m c cc nL s args TB own) {a b : Nat} {off : Int} {tgt : Nat} (ha : a < 2 ^ 31) (hb : b < 2 ^ 31) (hdg : decode cc pc = .ok (.if_icmp .eq off, 3)) (ht : (pc : Int) + off = (tgt : Int)) (kt : a = b → W p l e R s m args below meth c H locs cells slots Q (F0 m tgt ls rest)) (kf : a ≠ b → W p l e R s m args below meth c H locs cells slots Q (F0 m (pc + 3) ls rest)) : W p l e R s m args below meth c H locs cells slots Q (F0 m pc ls (.int (nI b) :: .int (nI a) :: rest)) :=
  lv_icmp_eq S.1 S.2.1 hdg ht (fun h => kt ((nI_eq ha hb).mp h)) (fun h => kf (fun z => h ((nI_eq ha hb).mpr z)))
theorem n_ne (S : CallFix p m c cc nL s args TB own) {a b : Nat} {off : Int} {tgt : Nat} (ha : a < 2 ^ 31) (hb : b < 2 ^ 31) (hdg : decode cc pc = .ok (.if_icmp .ne off, 3)) (ht : (pc : Int) + off = (tgt : Int)) (kt : a ≠ b → W p l e R s m args below meth c H locs cells slots Q (F0 m tgt ls rest)) (kf : a = b → W p l e R s m args below meth c H locs cells slots Q (F0 m (pc + 3) ls rest)) : W p l e R s m args below meth c H locs cells slots Q (F0 m pc ls (.int (nI b) :: .int (nI a) :: rest)) :=
  lv_icmp_ne S.1 S.2.1 hdg ht (fun h => kt (fun z => h ((nI_eq ha hb).mpr z))) (fun h => kf ((nI_eq ha hb).mp h))
/-- branches over truths -/
theorem b_eq (S : CallFix p m c cc nL s args TB own) {b : Bool} {off : Int} {tgt : Nat} (hdg : decode cc pc = .ok (.ifCond .eq off, 3)) (ht : (pc : Int) + off = (tgt : Int)) (kt : b = false → W p l e R s m args below meth c H locs cells slots Q (F0 m tgt ls rest)) (kf : b = true → W p l e R s m args below meth c H locs cells slots Q (F0 m (pc + 3) ls rest)) : W p l e R s m args below meth c H locs cells slots Q (F0 m pc ls (.int (b01 b) :: rest)) :=
  lv_if_eq S.1 S.2.1 hdg ht (fun h => kt (b01_0.mp h)) (fun h => kf (by cases b; exact absurd rfl h; rfl))
theorem b_ne (S : CallFix p m c cc nL s args TB own) {b : Bool} {off : Int} {tgt : Nat} (hdg : decode cc pc = .ok (.ifCond .ne off, 3)) (ht : (pc : Int) + off = (tgt : Int)) (kt : b = true → W p l e R s m args below meth c H locs cells slots Q (F0 m tgt ls rest)) (kf : b = false → W p l e R s m args below meth c H locs cells slots Q (F0 m (pc + 3) ls rest)) : W p l e R s m args below meth c H locs cells slots Q (F0 m pc ls (.int (b01 b) :: rest)) :=
  lv_if_ne S.1 S.2.1 hdg ht (fun h => kt (by cases b; exact absurd rfl h; rfl)) (fun h => kf (b01_0.mp h))
end ROWS
/-- contracts of methods that only read -/
abbrev CrI (l : Launch) (G : GT) (N K : Nat) (ad : Nat → Nat) (y : MethodName) (cd : ByteArray) (mL : Nat) (ty : FieldType) (fr lo : Nat) (av : List Value) (M : Mem) (v : Int32) : Prop := CmI l G N K ad y cd mL ty fr lo av M (fun r M' => r = v ∧ M' = M)
section ROWS2
variable {p : Program} {l : Launch} {e : Env} {R : Room} {s : State} {m : MethodId} {args : Array Value} {below : List Frame} {meth : Method} {c : Code} {H : Heap} {locs : List Loc} {cells slots : Nat} {Q : State → Prop}
variable {cc : ByteArray} {pc nL : Nat} {ls : Array Slot} {rest st0 : List Value} {own : String} {G : GT} {N K : Nat} {ad : Nat → Nat} {M : Mem}
theorem r_VI (k : Nat) {y : MethodName} {cd : ByteArray} {mL fr lo index : Nat} {ty : FieldType} {As : List Value} {v : Int32} (S : CallFix p m c cc nL s args TB own) (hw : Wd G N K ad M s H locs) (hk : k < N) {ci : Nat} {fl : List (Option Nat)} (hsh : shp k = (3, ci, fl)) {Cn : String} {T : u_T} {NN : Nat} (hcl : vwCl[ci]? = some (Cn, T, NN)) (hM : CrI l G N K ad y cd mL ty fr lo (.ref (ad k) :: As) M v)
    (mf : MFv y cd mL (some ty) Cn As.length) (hlk : Cond.methodLink own index y ∈ TB) (hR : fr + 1 ≤ R.frames ∧ 8 + (mL + 11) + lo ≤ R.locals) (hcs : cells ≤ R.cells ∧ slots ≤ R.slots) (hls : ls.size = nL) (hst : st0 = As.reverse ++ .ref (ad k) :: rest) (hrest : (rest.map fun v => v.category).sum ≤ 8) (hdg : decode cc pc = .ok (.invokevirtual index, 3))
    (kk : ∀ (H1 : Heap) (locs1 : List Loc), Wd G N K ad M s H1 locs1 → W p l e R s m args below meth c H1 locs1 cells slots Q (F0 m (pc + 3) ls (.int v :: rest))) : W p l e R s m args below meth c H locs cells slots Q (F0 m pc ls st0) :=
  m_VI k S hw hk hsh hcl hM mf hlk hR hcs hls hst hrest hdg (fun r M1 H1 locs1 hp h => by rw [hp.1]; rw [hp.2] at h; exact kk H1 locs1 h)
theorem r_SI {y : MethodName} {cd : ByteArray} {mL fr lo index : Nat} {ty : FieldType} {As : List Value} {v : Int32} (S : CallFix p m c cc nL s args TB own) (hw : Wd G N K ad M s H locs) (hM : CrI l G N K ad y cd mL ty fr lo As M v)
    (mf : MFs y cd mL (some ty) As.length) (hlk : Cond.methodLink own index y ∈ TB) (hR : fr + 1 ≤ R.frames ∧ 8 + (mL + 11) + lo ≤ R.locals) (hcs : cells ≤ R.cells ∧ slots ≤ R.slots) (hls : ls.size = nL) (hst : st0 = As.reverse ++ rest) (hrest : (rest.map fun v => v.category).sum ≤ 8) (hdg : decode cc pc = .ok (.invokestatic index, 3))
    (kk : ∀ (H1 : Heap) (locs1 : List Loc), Wd G N K ad M s H1 locs1 → W p l e R s m args below meth c H1 locs1 cells slots Q (F0 m (pc + 3) ls (.int v :: rest))) : W p l e R s m args below meth c H locs cells slots Q (F0 m pc ls st0) :=
  m_SI S hw hM mf hlk hR hcs hls hst hrest hdg (fun r M1 H1 locs1 hp h => by rw [hp.1]; rw [hp.2] at h; exact kk H1 locs1 h)
theorem r_NI {y : MethodName} {cd : ByteArray} {mL fr lo index : Nat} {ty : FieldType} {As : List Value} {v : Int32} (S : CallFix p m c cc nL s args TB own) (hw : Wd G N K ad M s H locs) (hM : CrI l G N K ad y cd mL ty fr lo As M v)
    (mf : MFs y cd mL (some ty) As.length) (hlk : (own, index, y) ∈ nests) (hR : fr + 1 ≤ R.frames ∧ 8 + (mL + 11) + lo ≤ R.locals) (hcs : cells ≤ R.cells ∧ slots ≤ R.slots) (hls : ls.size = nL) (hst : st0 = As.reverse ++ rest) (hrest : (rest.map fun v => v.category).sum ≤ 8) (hdg : decode cc pc = .ok (.invokestatic index, 3))
    (kk : ∀ (H1 : Heap) (locs1 : List Loc), Wd G N K ad M s H1 locs1 → W p l e R s m args below meth c H1 locs1 cells slots Q (F0 m (pc + 3) ls (.int v :: rest))) : W p l e R s m args below meth c H locs cells slots Q (F0 m pc ls st0) :=
  m_NI S hw hM mf hlk hR hcs hls hst hrest hdg (fun r M1 H1 locs1 hp h => by rw [hp.1]; rw [hp.2] at h; exact kk H1 locs1 h)
end ROWS2
theorem IsM.s0 {N K mb : Nat} (h : IsM N K mb) : shp mb = (3, 1, [none, none, none, some (mb + 1), some (mb + 6), some (mb + 11), some (mb + 12)]) := h.sh 0 (by decide)
theorem IsM.s1 {N K mb : Nat} (h : IsM N K mb) : shp (mb + 1) = (3, 2, [none, some (mb + 2), some (mb + 3), some (mb + 4), some (mb + 5)]) := h.sh 1 (by decide)
theorem IsM.s2 {N K mb : Nat} (h : IsM N K mb) : shp (mb + 2) = (0, 120, []) := h.sh 2 (by decide)
theorem IsM.s3 {N K mb : Nat} (h : IsM N K mb) : shp (mb + 3) = (0, 120, []) := h.sh 3 (by decide)
theorem IsM.s4 {N K mb : Nat} (h : IsM N K mb) : shp (mb + 4) = (0, 120, []) := h.sh 4 (by decide)
theorem IsM.s5 {N K mb : Nat} (h : IsM N K mb) : shp (mb + 5) = (0, 120, []) := h.sh 5 (by decide)
theorem IsM.s6 {N K mb : Nat} (h : IsM N K mb) : shp (mb + 6) = (3, 4, [some (mb + 7), some (mb + 8), some (mb + 9), some (mb + 10)]) := h.sh 6 (by decide)
theorem IsM.s7 {N K mb : Nat} (h : IsM N K mb) : shp (mb + 7) = (0, 48, []) := h.sh 7 (by decide)
theorem IsM.s8 {N K mb : Nat} (h : IsM N K mb) : shp (mb + 8) = (0, 48, []) := h.sh 8 (by decide)
theorem IsM.s9 {N K mb : Nat} (h : IsM N K mb) : shp (mb + 9) = (0, 48, []) := h.sh 9 (by decide)
theorem IsM.s10 {N K mb : Nat} (h : IsM N K mb) : shp (mb + 10) = (0, 6, []) := h.sh 10 (by decide)
theorem IsM.s11 {N K mb : Nat} (h : IsM N K mb) : shp (mb + 11) = (0, 200, []) := h.sh 11 (by decide)
theorem IsM.s12 {N K mb : Nat} (h : IsM N K mb) : shp (mb + 12) = (0, 20, []) := h.sh 12 (by decide)
end
section
theorem ofI1 : Int32.ofInt 1 = 1 := by decide
theorem iinc1 (i : Nat) : nI i + Int32.ofInt 1 = nI (i + 1) := by rw [ofI1]; exact nI_1 i
theorem iincM (i : Nat) : nI (i + 1) + Int32.ofInt (-1) = nI i := by rw [show Int32.ofInt (-1) = -1 by decide]; exact pk_m1 i
theorem sw_cases (x : Int32) (hi : Nat) : (x.toInt < 0 ∨ (hi : Int) < x.toInt) ∨ ∃ j : Nat, j ≤ hi ∧ x.toInt = (j : Int) := by
  by_cases h : x.toInt < 0 ∨ (hi : Int) < x.toInt
  · exact Or.inl h
  · exact Or.inr ⟨x.toInt.toNat, by omega, by omega⟩
theorem mf_X7_init : MFi yX7_init cX7_init 1 0 := ⟨wc_X7_init, wi_X7_init, wn_X7, rfl, by decide, by decide, by decide +kernel⟩
theorem mf_X5_init : MFi yX5_init cX5_init 2 0 := ⟨wc_X5_init, wi_X5_init, wn_X5, rfl, by decide, by decide, by decide +kernel⟩
theorem mf_J7_fill_53178 : MFs yJ7_fill_53178 cJ7_fill_53178 4 none 2 := ⟨wc_J7_fill_53178, wt_J7_fill_53178, wn_J7, by decide, by decide, by decide +kernel⟩
theorem mf_X0_init : MFi yX0_init cX0_init 1 0 := ⟨wc_X0_init, wi_X0_init, wn_X0, rfl, by decide, by decide, by decide +kernel⟩
theorem mf_X6_init : MFi yX6_init cX6_init 1 0 := ⟨wc_X6_init, wi_X6_init, wn_X6, rfl, by decide, by decide, by decide +kernel⟩
theorem mf_X3_init : MFi yX3_init cX3_init 1 0 := ⟨wc_X3_init, wi_X3_init, wn_X3, rfl, by decide, by decide, by decide +kernel⟩
theorem mf_X1_init : MFi yX1_init cX1_init 1 0 := ⟨wc_X1_init, wi_X1_init, wn_X1, rfl, by decide, by decide, by decide +kernel⟩
theorem mf_X2_init : MFi yX2_init cX2_init 1 0 := ⟨wc_X2_init, wi_X2_init, wn_X2, rfl, by decide, by decide, by decide +kernel⟩
theorem mf_X4_init : MFi yX4_init cX4_init 1 0 := ⟨wc_X4_init, wi_X4_init, wn_X4, rfl, by decide, by decide, by decide +kernel⟩
theorem mf_X1_renew : MFv yX1_renew cX1_renew 2 none RX1 1 := ⟨wc_X1_renew, wi_X1_renew, ws_X1_renew, wn_X1, by decide, by decide, by decide +kernel⟩
theorem mf_X2_renew : MFv yX2_renew cX2_renew 3 none RX2 1 := ⟨wc_X2_renew, wi_X2_renew, ws_X2_renew, wn_X2, by decide, by decide, by decide +kernel⟩
theorem mf_X2_put : MFv yX2_put cX2_put 4 none RX2 3 := ⟨wc_X2_put, wi_X2_put, ws_X2_put, wn_X2, by decide, by decide, by decide +kernel⟩
theorem mf_X4_clear : MFv yX4_clear cX4_clear 1 none RX4 0 := ⟨wc_X4_clear, wi_X4_clear, ws_X4_clear, wn_X4, by decide, by decide, by decide +kernel⟩
theorem mf_X7_line : MFv yX7_line cX7_line 2 (some .int) RX7 1 := ⟨wc_X7_line, wi_X7_line, ws_X7_line, wn_X7, by decide, by decide, by decide +kernel⟩
theorem mf_X7_within : MFs yX7_within cX7_within 3 (some .boolean) 3 := ⟨wc_X7_within, wt_X7_within, wn_X7, by decide, by decide, by decide +kernel⟩
theorem mf_X0_clear : MFv yX0_clear cX0_clear 2 none RX0 0 := ⟨wc_X0_clear, wi_X0_clear, ws_X0_clear, wn_X0, by decide, by decide, by decide +kernel⟩
theorem mf_X7_door : MFv yX7_door cX7_door 2 (some .int) RX7 1 := ⟨wc_X7_door, wi_X7_door, ws_X7_door, wn_X7, by decide, by decide, by decide +kernel⟩
theorem mf_X0_isTaken : MFv yX0_isTaken cX0_isTaken 3 (some .boolean) RX0 1 := ⟨wc_X0_isTaken, wi_X0_isTaken, ws_X0_isTaken, wn_X0, by decide, by decide, by decide +kernel⟩
theorem mf_X0_open : MFv yX0_open cX0_open 3 (some .int) RX0 1 := ⟨wc_X0_open, wi_X0_open, ws_X0_open, wn_X0, by decide, by decide, by decide +kernel⟩
theorem mf_X7_tank : MFv yX7_tank cX7_tank 7 (some .int) RX7 5 := ⟨wc_X7_tank, wi_X7_tank, ws_X7_tank, wn_X7, by decide, by decide, by decide +kernel⟩
theorem mf_X0_has : MFv yX0_has cX0_has 2 (some .boolean) RX0 1 := ⟨wc_X0_has, wi_X0_has, ws_X0_has, wn_X0, by decide, by decide, by decide +kernel⟩
theorem mf_X7_isKind : MFs yX7_isKind cX7_isKind 1 (some .boolean) 1 := ⟨wc_X7_isKind, wt_X7_isKind, wn_X7, by decide, by decide, by decide +kernel⟩
theorem mf_X7_tankNumber : MFs yX7_tankNumber cX7_tankNumber 2 (some .int) 2 := ⟨wc_X7_tankNumber, wt_X7_tankNumber, wn_X7, by decide, by decide, by decide +kernel⟩
theorem mf_X0_build : MFv yX0_build cX0_build 4 none RX0 3 := ⟨wc_X0_build, wi_X0_build, ws_X0_build, wn_X0, by decide, by decide, by decide +kernel⟩
theorem mf_X4_fill : MFv yX4_fill cX4_fill 3 none RX4 2 := ⟨wc_X4_fill, wi_X4_fill, ws_X4_fill, wn_X4, by decide, by decide, by decide +kernel⟩
theorem mf_X7_follow : MFv yX7_follow cX7_follow 5 (some .int) RX7 4 := ⟨wc_X7_follow, wi_X7_follow, ws_X7_follow, wn_X7, by decide, by decide, by decide +kernel⟩
theorem mf_X5_tellPair : MFv yX5_tellPair cX5_tellPair 5 none RX5 4 := ⟨wc_X5_tellPair, wi_X5_tellPair, ws_X5_tellPair, wn_X5, by decide, by decide, by decide +kernel⟩
theorem mf_X7_grace : MFv yX7_grace cX7_grace 3 (some .int) RX7 2 := ⟨wc_X7_grace, wi_X7_grace, ws_X7_grace, wn_X7, by decide, by decide, by decide +kernel⟩
theorem mf_X7_exchange : MFs yX7_exchange cX7_exchange 4 (some .int) 3 := ⟨wc_X7_exchange, wt_X7_exchange, wn_X7, by decide, by decide, by decide +kernel⟩
theorem mf_X7_rate : MFv yX7_rate cX7_rate 3 (some .int) RX7 2 := ⟨wc_X7_rate, wi_X7_rate, ws_X7_rate, wn_X7, by decide, by decide, by decide +kernel⟩
theorem mf_X7_price : MFv yX7_price cX7_price 3 (some .int) RX7 2 := ⟨wc_X7_price, wi_X7_price, ws_X7_price, wn_X7, by decide, by decide, by decide +kernel⟩
theorem mf_X7_wish : MFv yX7_wish cX7_wish 6 (some .int) RX7 4 := ⟨wc_X7_wish, wi_X7_wish, ws_X7_wish, wn_X7, by decide, by decide, by decide +kernel⟩
theorem mf_X7_hasTank : MFv yX7_hasTank cX7_hasTank 3 (some .boolean) RX7 2 := ⟨wc_X7_hasTank, wi_X7_hasTank, ws_X7_hasTank, wn_X7, by decide, by decide, by decide +kernel⟩
theorem mf_X6_tell : MFv yX6_tell cX6_tell 6 (some .int) RX6 4 := ⟨wc_X6_tell, wi_X6_tell, ws_X6_tell, wn_X6, by decide, by decide, by decide +kernel⟩
theorem mf_X7_push : MFv yX7_push cX7_push 6 (some .int) RX7 4 := ⟨wc_X7_push, wi_X7_push, ws_X7_push, wn_X7, by decide, by decide, by decide +kernel⟩
theorem mf_X7_attempt : MFv yX7_attempt cX7_attempt 7 (some .int) RX7 4 := ⟨wc_X7_attempt, wi_X7_attempt, ws_X7_attempt, wn_X7, by decide, by decide, by decide +kernel⟩
theorem mf_X7_earlierAt : MFv yX7_earlierAt cX7_earlierAt 3 (some (.object "OilLine$Moment")) RX7 1 := ⟨wc_X7_earlierAt, wi_X7_earlierAt, ws_X7_earlierAt, wn_X7, by decide, by decide, by decide +kernel⟩
theorem mf_X1_copyFrom : MFv yX1_copyFrom cX1_copyFrom 2 none RX1 1 := ⟨wc_X1_copyFrom, wi_X1_copyFrom, ws_X1_copyFrom, wn_X1, by decide, by decide, by decide +kernel⟩
theorem mf_X2_copyFrom : MFv yX2_copyFrom cX2_copyFrom 2 none RX2 1 := ⟨wc_X2_copyFrom, wi_X2_copyFrom, ws_X2_copyFrom, wn_X2, by decide, by decide, by decide +kernel⟩
theorem mf_X4_copyFrom : MFv yX4_copyFrom cX4_copyFrom 2 none RX4 1 := ⟨wc_X4_copyFrom, wi_X4_copyFrom, ws_X4_copyFrom, wn_X4, by decide, by decide, by decide +kernel⟩
theorem mf_X3_set : MFv yX3_set cX3_set 5 none RX3 4 := ⟨wc_X3_set, wi_X3_set, ws_X3_set, wn_X3, by decide, by decide, by decide +kernel⟩
theorem mf_X1_flow : MFv yX1_flow cX1_flow 7 (some .int) RX1 4 := ⟨wc_X1_flow, wi_X1_flow, ws_X1_flow, wn_X1, by decide, by decide, by decide +kernel⟩
theorem mf_X1_step : MFv yX1_step cX1_step 8 (some .int) RX1 3 := ⟨wc_X1_step, wi_X1_step, ws_X1_step, wn_X1, by decide, by decide, by decide +kernel⟩
theorem mf_X1_sinkFor : MFv yX1_sinkFor cX1_sinkFor 7 (some .int) RX1 4 := ⟨wc_X1_sinkFor, wi_X1_sinkFor, ws_X1_sinkFor, wn_X1, by decide, by decide, by decide +kernel⟩
theorem mf_X2_isPure : MFv yX2_isPure cX2_isPure 2 (some .boolean) RX2 1 := ⟨wc_X2_isPure, wi_X2_isPure, ws_X2_isPure, wn_X2, by decide, by decide, by decide +kernel⟩
theorem mf_X4_bearsForeign : MFv yX4_bearsForeign cX4_bearsForeign 3 (some .boolean) RX4 2 := ⟨wc_X4_bearsForeign, wi_X4_bearsForeign, ws_X4_bearsForeign, wn_X4, by decide, by decide, by decide +kernel⟩
theorem mf_X1_letOut : MFv yX1_letOut cX1_letOut 4 none RX1 3 := ⟨wc_X1_letOut, wi_X1_letOut, ws_X1_letOut, wn_X1, by decide, by decide, by decide +kernel⟩
theorem mf_X4_putOne : MFv yX4_putOne cX4_putOne 3 none RX4 2 := ⟨wc_X4_putOne, wi_X4_putOne, ws_X4_putOne, wn_X4, by decide, by decide, by decide +kernel⟩
theorem mf_X2_moveOn : MFv yX2_moveOn cX2_moveOn 4 none RX2 2 := ⟨wc_X2_moveOn, wi_X2_moveOn, ws_X2_moveOn, wn_X2, by decide, by decide, by decide +kernel⟩
theorem mf_X4_takeOne : MFv yX4_takeOne cX4_takeOne 2 none RX4 1 := ⟨wc_X4_takeOne, wi_X4_takeOne, ws_X4_takeOne, wn_X4, by decide, by decide, by decide +kernel⟩
theorem mf_X2_mixBorders : MFv yX2_mixBorders cX2_mixBorders 7 none RX2 3 := ⟨wc_X2_mixBorders, wi_X2_mixBorders, ws_X2_mixBorders, wn_X2, by decide, by decide, by decide +kernel⟩
theorem mf_X2_farSide : MFv yX2_farSide cX2_farSide 5 (some .int) RX2 3 := ⟨wc_X2_farSide, wi_X2_farSide, ws_X2_farSide, wn_X2, by decide, by decide, by decide +kernel⟩
theorem mf_X5_mixOf : MFv yX5_mixOf cX5_mixOf 3 (some .int) RX5 2 := ⟨wc_X5_mixOf, wi_X5_mixOf, ws_X5_mixOf, wn_X5, by decide, by decide, by decide +kernel⟩
theorem mf_X2_hindIsNext : MFv yX2_hindIsNext cX2_hindIsNext 4 (some .boolean) RX2 2 := ⟨wc_X2_hindIsNext, wi_X2_hindIsNext, ws_X2_hindIsNext, wn_X2, by decide, by decide, by decide +kernel⟩
theorem mf_X2_mixOne : MFv yX2_mixOne cX2_mixOne 8 none RX2 3 := ⟨wc_X2_mixOne, wi_X2_mixOne, ws_X2_mixOne, wn_X2, by decide, by decide, by decide +kernel⟩
theorem mf_X2_clashesAt : MFv yX2_clashesAt cX2_clashesAt 5 (some .boolean) RX2 2 := ⟨wc_X2_clashesAt, wi_X2_clashesAt, ws_X2_clashesAt, wn_X2, by decide, by decide, by decide +kernel⟩
theorem mf_X2_neighbourToBegin : MFv yX2_neighbourToBegin cX2_neighbourToBegin 3 (some .int) RX2 1 := ⟨wc_X2_neighbourToBegin, wi_X2_neighbourToBegin, ws_X2_neighbourToBegin, wn_X2, by decide, by decide, by decide +kernel⟩
theorem mf_X2_neighbourToEnd : MFv yX2_neighbourToEnd cX2_neighbourToEnd 3 (some .int) RX2 1 := ⟨wc_X2_neighbourToEnd, wi_X2_neighbourToEnd, ws_X2_neighbourToEnd, wn_X2, by decide, by decide, by decide +kernel⟩
theorem mf_X2_clash : MFv yX2_clash cX2_clash 4 (some .boolean) RX2 3 := ⟨wc_X2_clash, wi_X2_clash, ws_X2_clash, wn_X2, by decide, by decide, by decide +kernel⟩
theorem mf_X5_mayFollow : MFv yX5_mayFollow cX5_mayFollow 3 (some .boolean) RX5 2 := ⟨wc_X5_mayFollow, wi_X5_mayFollow, ws_X5_mayFollow, wn_X5, by decide, by decide, by decide +kernel⟩
theorem mf_X7_hoursFor : MFv yX7_hoursFor cX7_hoursFor 5 (some .int) RX7 3 := ⟨wc_X7_hoursFor, wi_X7_hoursFor, ws_X7_hoursFor, wn_X7, by decide, by decide, by decide +kernel⟩
theorem mf_X1_pass : MFv yX1_pass cX1_pass 4 none RX1 2 := ⟨wc_X1_pass, wi_X1_pass, ws_X1_pass, wn_X1, by decide, by decide, by decide +kernel⟩
theorem mf_X5_priceAt : MFv yX5_priceAt cX5_priceAt 2 (some .int) RX5 1 := ⟨wc_X5_priceAt, wi_X5_priceAt, ws_X5_priceAt, wn_X5, by decide, by decide, by decide +kernel⟩
theorem mf_J9_floorMod_7cf53 : MFs yJ9_floorMod_7cf53 cJ9_floorMod_7cf53 3 (some .int) 2 := ⟨wc_J9_floorMod_7cf53, wt_J9_floorMod_7cf53, wn_J9, by decide, by decide, by decide +kernel⟩
theorem mf_X6_keep : MFv yX6_keep cX6_keep 3 none RX6 1 := ⟨wc_X6_keep, wi_X6_keep, ws_X6_keep, wn_X6, by decide, by decide, by decide +kernel⟩
theorem mf_X6_wanting : MFv yX6_wanting cX6_wanting 4 (some .int) RX6 2 := ⟨wc_X6_wanting, wi_X6_wanting, ws_X6_wanting, wn_X6, by decide, by decide, by decide +kernel⟩
theorem mf_X7_register : MFv yX7_register cX7_register 4 (some .int) RX7 2 := ⟨wc_X7_register, wi_X7_register, ws_X7_register, wn_X7, by decide, by decide, by decide +kernel⟩
theorem mf_X7_trial : MFv yX7_trial cX7_trial 6 (some .int) RX7 4 := ⟨wc_X7_trial, wi_X7_trial, ws_X7_trial, wn_X7, by decide, by decide, by decide +kernel⟩
theorem mf_X7_undo : MFv yX7_undo cX7_undo 1 (some .int) RX7 0 := ⟨wc_X7_undo, wi_X7_undo, ws_X7_undo, wn_X7, by decide, by decide, by decide +kernel⟩
theorem mf_X7_wait : MFv yX7_wait cX7_wait 2 (some .int) RX7 1 := ⟨wc_X7_wait, wi_X7_wait, ws_X7_wait, wn_X7, by decide, by decide, by decide +kernel⟩
theorem mf_X7_at : MFv yX7_at cX7_at 4 (some .int) RX7 2 := ⟨wc_X7_at, wi_X7_at, ws_X7_at, wn_X7, by decide, by decide, by decide +kernel⟩
theorem mf_X2_isBorder : MFv yX2_isBorder cX2_isBorder 3 (some .boolean) RX2 1 := ⟨wc_X2_isBorder, wi_X2_isBorder, ws_X2_isBorder, wn_X2, by decide, by decide, by decide +kernel⟩
theorem mf_X7_batch : MFv yX7_batch cX7_batch 3 (some .int) RX7 2 := ⟨wc_X7_batch, wi_X7_batch, ws_X7_batch, wn_X7, by decide, by decide, by decide +kernel⟩
theorem mf_X2_countOf : MFv yX2_countOf cX2_countOf 4 (some .int) RX2 1 := ⟨wc_X2_countOf, wi_X2_countOf, ws_X2_countOf, wn_X2, by decide, by decide, by decide +kernel⟩
theorem mf_X2_leastOf : MFv yX2_leastOf cX2_leastOf 3 (some .int) RX2 1 := ⟨wc_X2_leastOf, wi_X2_leastOf, ws_X2_leastOf, wn_X2, by decide, by decide, by decide +kernel⟩
theorem mf_X2_greatestOf : MFv yX2_greatestOf cX2_greatestOf 3 (some .int) RX2 1 := ⟨wc_X2_greatestOf, wi_X2_greatestOf, ws_X2_greatestOf, wn_X2, by decide, by decide, by decide +kernel⟩
theorem mf_X7_tankOf : MFv yX7_tankOf cX7_tankOf 5 (some .int) RX7 3 := ⟨wc_X7_tankOf, wi_X7_tankOf, ws_X7_tankOf, wn_X7, by decide, by decide, by decide +kernel⟩
theorem mf_X7_about : MFv yX7_about cX7_about 3 (some .int) RX7 2 := ⟨wc_X7_about, wi_X7_about, ws_X7_about, wn_X7, by decide, by decide, by decide +kernel⟩
theorem mf_X7_wished : MFv yX7_wished cX7_wished 3 (some .int) RX7 2 := ⟨wc_X7_wished, wi_X7_wished, ws_X7_wished, wn_X7, by decide, by decide, by decide +kernel⟩
theorem mf_X6_lateBy : MFv yX6_lateBy cX6_lateBy 4 (some .int) RX6 2 := ⟨wc_X6_lateBy, wi_X6_lateBy, ws_X6_lateBy, wn_X6, by decide, by decide, by decide +kernel⟩
theorem mf_X7_count : MFv yX7_count cX7_count 2 (some .int) RX7 1 := ⟨wc_X7_count, wi_X7_count, ws_X7_count, wn_X7, by decide, by decide, by decide +kernel⟩
theorem mf_X2_countMixed : MFv yX2_countMixed cX2_countMixed 3 (some .int) RX2 0 := ⟨wc_X2_countMixed, wi_X2_countMixed, ws_X2_countMixed, wn_X2, by decide, by decide, by decide +kernel⟩
theorem mf_X4_slopOfAll : MFv yX4_slopOfAll cX4_slopOfAll 3 (some .int) RX4 0 := ⟨wc_X4_slopOfAll, wi_X4_slopOfAll, ws_X4_slopOfAll, wn_X4, by decide, by decide, by decide +kernel⟩
theorem mf_X6_lateByAll : MFv yX6_lateByAll cX6_lateByAll 4 (some .int) RX6 1 := ⟨wc_X6_lateByAll, wi_X6_lateByAll, ws_X6_lateByAll, wn_X6, by decide, by decide, by decide +kernel⟩
theorem mf_X7_borders : MFv yX7_borders cX7_borders 1 (some .int) RX7 0 := ⟨wc_X7_borders, wi_X7_borders, ws_X7_borders, wn_X7, by decide, by decide, by decide +kernel⟩
theorem mf_X2_countBorders : MFv yX2_countBorders cX2_countBorders 3 (some .int) RX2 0 := ⟨wc_X2_countBorders, wi_X2_countBorders, ws_X2_countBorders, wn_X2, by decide, by decide, by decide +kernel⟩
theorem mf_X8_init : MFi yX8_init cX8_init 2 0 := ⟨wc_X8_init, wi_X8_init, wn_X8, rfl, by decide, by decide, by decide +kernel⟩
theorem mf_X8_line : MFv yX8_line cX8_line 3 (some .int) RX8 1 := ⟨wc_X8_line, wi_X8_line, ws_X8_line, wn_X8, by decide, by decide, by decide +kernel⟩
theorem mf_X8_in : MFs yX8_in cX8_in 3 (some .boolean) 3 := ⟨wc_X8_in, wt_X8_in, wn_X8, by decide, by decide, by decide +kernel⟩
theorem mf_X8_door : MFv yX8_door cX8_door 3 (some .int) RX8 1 := ⟨wc_X8_door, wi_X8_door, ws_X8_door, wn_X8, by decide, by decide, by decide +kernel⟩
theorem mf_X8_tank : MFv yX8_tank cX8_tank 7 (some .int) RX8 5 := ⟨wc_X8_tank, wi_X8_tank, ws_X8_tank, wn_X8, by decide, by decide, by decide +kernel⟩
theorem mf_X8_isDoor : MFv yX8_isDoor cX8_isDoor 2 (some .boolean) RX8 1 := ⟨wc_X8_isDoor, wi_X8_isDoor, ws_X8_isDoor, wn_X8, by decide, by decide, by decide +kernel⟩
theorem mf_X8_isKind : MFs yX8_isKind cX8_isKind 1 (some .boolean) 1 := ⟨wc_X8_isKind, wt_X8_isKind, wn_X8, by decide, by decide, by decide +kernel⟩
theorem mf_X8_follow : MFv yX8_follow cX8_follow 5 (some .int) RX8 4 := ⟨wc_X8_follow, wi_X8_follow, ws_X8_follow, wn_X8, by decide, by decide, by decide +kernel⟩
theorem mf_X8_grace : MFv yX8_grace cX8_grace 4 (some .int) RX8 2 := ⟨wc_X8_grace, wi_X8_grace, ws_X8_grace, wn_X8, by decide, by decide, by decide +kernel⟩
theorem mf_X8_rate : MFv yX8_rate cX8_rate 4 (some .int) RX8 2 := ⟨wc_X8_rate, wi_X8_rate, ws_X8_rate, wn_X8, by decide, by decide, by decide +kernel⟩
theorem mf_X8_price : MFv yX8_price cX8_price 4 (some .int) RX8 2 := ⟨wc_X8_price, wi_X8_price, ws_X8_price, wn_X8, by decide, by decide, by decide +kernel⟩
theorem mf_X8_wish : MFv yX8_wish cX8_wish 5 (some .int) RX8 4 := ⟨wc_X8_wish, wi_X8_wish, ws_X8_wish, wn_X8, by decide, by decide, by decide +kernel⟩
theorem mf_X8_isTank : MFv yX8_isTank cX8_isTank 3 (some .boolean) RX8 2 := ⟨wc_X8_isTank, wi_X8_isTank, ws_X8_isTank, wn_X8, by decide, by decide, by decide +kernel⟩
theorem mf_X8_wait : MFv yX8_wait cX8_wait 2 (some .int) RX8 1 := ⟨wc_X8_wait, wi_X8_wait, ws_X8_wait, wn_X8, by decide, by decide, by decide +kernel⟩
theorem mf_X8_push : MFv yX8_push cX8_push 6 (some .int) RX8 4 := ⟨wc_X8_push, wi_X8_push, ws_X8_push, wn_X8, by decide, by decide, by decide +kernel⟩
theorem mf_X8_tries : MFv yX8_tries cX8_tries 7 (some .int) RX8 4 := ⟨wc_X8_tries, wi_X8_tries, ws_X8_tries, wn_X8, by decide, by decide, by decide +kernel⟩
theorem mf_X8_writeDown : MFv yX8_writeDown cX8_writeDown 2 none RX8 0 := ⟨wc_X8_writeDown, wi_X8_writeDown, ws_X8_writeDown, wn_X8, by decide, by decide, by decide +kernel⟩
theorem mf_X8_note : MFv yX8_note cX8_note 2 none RX8 1 := ⟨wc_X8_note, wi_X8_note, ws_X8_note, wn_X8, by decide, by decide, by decide +kernel⟩
theorem mf_X8_steps : MFv yX8_steps cX8_steps 8 (some .int) RX8 3 := ⟨wc_X8_steps, wi_X8_steps, ws_X8_steps, wn_X8, by decide, by decide, by decide +kernel⟩
theorem mf_X8_goesOut : MFv yX8_goesOut cX8_goesOut 5 (some .boolean) RX8 2 := ⟨wc_X8_goesOut, wi_X8_goesOut, ws_X8_goesOut, wn_X8, by decide, by decide, by decide +kernel⟩
theorem mf_X8_isPure : MFv yX8_isPure cX8_isPure 2 (some .boolean) RX8 1 := ⟨wc_X8_isPure, wi_X8_isPure, ws_X8_isPure, wn_X8, by decide, by decide, by decide +kernel⟩
theorem mf_X8_fits : MFv yX8_fits cX8_fits 2 (some .boolean) RX8 1 := ⟨wc_X8_fits, wi_X8_fits, ws_X8_fits, wn_X8, by decide, by decide, by decide +kernel⟩
theorem mf_X8_mixes : MFv yX8_mixes cX8_mixes 11 none RX8 3 := ⟨wc_X8_mixes, wi_X8_mixes, ws_X8_mixes, wn_X8, by decide, by decide, by decide +kernel⟩
theorem mf_X8_border : MFv yX8_border cX8_border 3 (some .int) RX8 1 := ⟨wc_X8_border, wi_X8_border, ws_X8_border, wn_X8, by decide, by decide, by decide +kernel⟩
theorem mf_X8_neighbour : MFv yX8_neighbour cX8_neighbour 4 (some .int) RX8 2 := ⟨wc_X8_neighbour, wi_X8_neighbour, ws_X8_neighbour, wn_X8, by decide, by decide, by decide +kernel⟩
theorem mf_X8_isWrong : MFv yX8_isWrong cX8_isWrong 4 (some .boolean) RX8 1 := ⟨wc_X8_isWrong, wi_X8_isWrong, ws_X8_isWrong, wn_X8, by decide, by decide, by decide +kernel⟩
theorem mf_X8_mayNot : MFv yX8_mayNot cX8_mayNot 3 (some .boolean) RX8 2 := ⟨wc_X8_mayNot, wi_X8_mayNot, ws_X8_mayNot, wn_X8, by decide, by decide, by decide +kernel⟩
theorem mf_X8_bringBack : MFv yX8_bringBack cX8_bringBack 2 none RX8 0 := ⟨wc_X8_bringBack, wi_X8_bringBack, ws_X8_bringBack, wn_X8, by decide, by decide, by decide +kernel⟩
theorem mf_X8_noted : MFv yX8_noted cX8_noted 1 (some .int) RX8 0 := ⟨wc_X8_noted, wi_X8_noted, ws_X8_noted, wn_X8, by decide, by decide, by decide +kernel⟩
theorem mf_X8_ends : MFv yX8_ends cX8_ends 6 none RX8 3 := ⟨wc_X8_ends, wi_X8_ends, ws_X8_ends, wn_X8, by decide, by decide, by decide +kernel⟩
theorem mf_X8_trial : MFv yX8_trial cX8_trial 6 (some .int) RX8 4 := ⟨wc_X8_trial, wi_X8_trial, ws_X8_trial, wn_X8, by decide, by decide, by decide +kernel⟩
theorem mf_X8_undo : MFv yX8_undo cX8_undo 1 (some .int) RX8 0 := ⟨wc_X8_undo, wi_X8_undo, ws_X8_undo, wn_X8, by decide, by decide, by decide +kernel⟩
theorem mf_X8_at : MFv yX8_at cX8_at 3 (some .int) RX8 2 := ⟨wc_X8_at, wi_X8_at, ws_X8_at, wn_X8, by decide, by decide, by decide +kernel⟩
theorem mf_X8_batch : MFv yX8_batch cX8_batch 7 (some .int) RX8 2 := ⟨wc_X8_batch, wi_X8_batch, ws_X8_batch, wn_X8, by decide, by decide, by decide +kernel⟩
theorem mf_X8_tankOf : MFv yX8_tankOf cX8_tankOf 5 (some .int) RX8 3 := ⟨wc_X8_tankOf, wi_X8_tankOf, ws_X8_tankOf, wn_X8, by decide, by decide, by decide +kernel⟩
theorem mf_X8_about : MFv yX8_about cX8_about 3 (some .int) RX8 2 := ⟨wc_X8_about, wi_X8_about, ws_X8_about, wn_X8, by decide, by decide, by decide +kernel⟩
theorem mf_X8_wished : MFv yX8_wished cX8_wished 4 (some .int) RX8 2 := ⟨wc_X8_wished, wi_X8_wished, ws_X8_wished, wn_X8, by decide, by decide, by decide +kernel⟩
theorem mf_X8_late : MFv yX8_late cX8_late 3 (some .int) RX8 1 := ⟨wc_X8_late, wi_X8_late, ws_X8_late, wn_X8, by decide, by decide, by decide +kernel⟩
theorem mf_X8_count : MFv yX8_count cX8_count 4 (some .int) RX8 1 := ⟨wc_X8_count, wi_X8_count, ws_X8_count, wn_X8, by decide, by decide, by decide +kernel⟩
theorem mf_X8_borders : MFv yX8_borders cX8_borders 3 (some .int) RX8 0 := ⟨wc_X8_borders, wi_X8_borders, ws_X8_borders, wn_X8, by decide, by decide, by decide +kernel⟩
end
section
/-! truths and numbers that contracts speak of -/
def wi (v lo hi : Int32) : Bool := decide (lo ≤ v) && decide (v ≤ hi)
theorem wi_t {v lo hi : Int32} (h1 : ¬ v < lo) (h2 : ¬ hi < v) : nI 1 = b01 (wi v lo hi) := by
  have a := Int32.not_lt.mp h1
  have b := Int32.not_lt.mp h2
  simp [wi, b01, a, b]
  rfl
theorem wi_f1 {v lo hi : Int32} (h1 : v < lo) : nI 0 = b01 (wi v lo hi) := by
  have a : ¬ lo ≤ v := fun q => Int32.not_lt.mpr q h1
  simp [wi, b01, a]
  rfl
theorem wi_f2 {v lo hi : Int32} (h2 : hi < v) : nI 0 = b01 (wi v lo hi) := by
  have a : ¬ v ≤ hi := fun q => Int32.not_lt.mpr q h2
  simp [wi, b01, a]
  rfl
theorem wi_nn (x : Int32) {a b : Nat} (ha : a < 2 ^ 31) (hb : b < 2 ^ 31) : wi x (nI a) (nI b) = (decide ((a : Int) ≤ x.toInt) && decide (x.toInt ≤ (b : Int))) := by
  simp only [wi, Int32.le_iff_toInt_le, nI_toInt ha, nI_toInt hb]
theorem wi_upto (x : Int32) {n : Nat} (hn : n < 2 ^ 31) : wi x (nI 0) (nI n) = inB x (n + 1) := by
  rw [wi_nn x (by decide) hn]
  simp only [inB]
  congr 1
  apply decide_eq_decide.mpr
  omega
theorem toInt_rng (x : Int32) : -2147483648 ≤ x.toInt ∧ x.toInt < 2147483648 := ⟨Int32.le_toInt x, Int32.toInt_lt x⟩
theorem wi_pred (x : Int32) {n : Nat} (hn : n < 2 ^ 31) : wi x (nI 0) (nI n - nI 1) = inB x n := by
  cases n with
  | zero =>
    have h : (nI 0 - nI 1).toInt = -1 := by decide
    simp only [wi, inB, Int32.le_iff_toInt_le, h, nI_toInt (show 0 < 2 ^ 31 by decide)]
    by_cases h0 : 0 ≤ x.toInt
    · have h1 : ¬ x.toInt ≤ -1 := by omega
      have h2 : ¬ x.toInt < ((0 : Nat) : Int) := by omega
      simp [h0, h1, h2]
    · simp [h0]
  | succ n =>
    rw [show nI (n + 1) - nI 1 = nI n from nI_pred n, wi_upto x (by omega)]
theorem inB_f {x : Int32} {n : Nat} (h : inB x n = false) : ¬ ∃ j, j < n ∧ j < 2 ^ 31 ∧ x = nI j := by
  rintro ⟨j, hj, h2, rfl⟩
  rw [inB_nI h2] at h
  simp at h
  omega
/-- some number in front of n that p holds of -/
def anyB (p : Nat → Bool) : Nat → Bool
  | 0 => false
  | n + 1 => anyB p n || p n
theorem anyB_t {p : Nat → Bool} {i : Nat} (hp : p i = true) : ∀ {n : Nat}, i < n → anyB p n = true
  | 0, h => absurd h (Nat.not_lt_zero i)
  | n + 1, h => by
    rcases Nat.lt_or_ge i n with q | q
    · simp [anyB, anyB_t hp q]
    · have : i = n := by omega
      subst this
      simp [anyB, hp]
theorem anyB_f {p : Nat → Bool} : ∀ {n : Nat}, (∀ i, i < n → p i = false) → anyB p n = false
  | 0, _ => rfl
  | n + 1, h => by rw [anyB, anyB_f (n := n) (fun i hi => h i (by omega)), h n (by omega)]; rfl
theorem anyB_iff {p : Nat → Bool} {n : Nat} : anyB p n = true ↔ ∃ i, i < n ∧ p i = true := by
  refine ⟨fun h => ?_, fun ⟨i, hi, hp⟩ => anyB_t hp hi⟩
  apply Classical.byContradiction
  intro hc
  have : anyB p n = false := anyB_f (fun i hi => by
    cases hq : p i with
    | false => rfl
    | true => exact absurd ⟨i, hi, hq⟩ hc)
  rw [this] at h
  cases h
theorem anyB_congr {p q : Nat → Bool} : ∀ {n : Nat}, (∀ i, i < n → p i = q i) → anyB p n = anyB q n
  | 0, _ => rfl
  | n + 1, h => by rw [anyB, anyB, anyB_congr (fun i hi => h i (by omega)), h n (by omega)]
/-- how many numbers in front of n p holds of -/
def cntB (p : Nat → Bool) : Nat → Nat
  | 0 => 0
  | n + 1 => cntB p n + (if p n then 1 else 0)
theorem cntB_le (p : Nat → Bool) : ∀ n, cntB p n ≤ n
  | 0 => Nat.le_refl 0
  | n + 1 => by
    have := cntB_le p n
    simp only [cntB]
    split <;> omega
theorem cntB_t {p : Nat → Bool} {n : Nat} (h : p n = true) : cntB p (n + 1) = cntB p n + 1 := by simp [cntB, h]
theorem cntB_f {p : Nat → Bool} {n : Nat} (h : p n = false) : cntB p (n + 1) = cntB p n := by simp [cntB, h]
theorem cntB_congr {p q : Nat → Bool} : ∀ {n : Nat}, (∀ i, i < n → p i = q i) → cntB p n = cntB q n
  | 0, _ => rfl
  | n + 1, h => by rw [cntB, cntB, cntB_congr (fun i hi => h i (by omega)), h n (by omega)]
def eqB (x y : Int32) : Bool := decide (x = y)
theorem eqB_t {x y : Int32} (h : x = y) : eqB x y = true := by simp [eqB, h]
theorem eqB_f {x y : Int32} (h : ¬ x = y) : eqB x y = false := by simp [eqB, h]
theorem b1_t {b : Bool} (h : b = true) : nI 1 = b01 b := by rw [h]; rfl
theorem b0_f {b : Bool} (h : b = false) : nI 0 = b01 b := by rw [h]; rfl
end
section
/-! what the class's and the reference's methods answer and do, as plain functions of rows -/
def enc : Option Nat → Int32
  | none => -1
  | some j => nI j
theorem enc_ne {j : Nat} (h : j < 2 ^ 31) : ¬ nI j = -1 := by
  intro h2
  have := congrArg Int32.toInt h2
  rw [nI_toInt h] at this
  have h3 : (-1 : Int32).toInt = -1 := by decide
  omega
def pureB (fo : Nat → Int32) (m : Nat) : Bool := eqB (fo m) (-1)
/-- the first pure one towards the begin, towards the end -/
def nbB (fo : Nat → Int32) : Nat → Option Nat
  | 0 => none
  | m + 1 => if pureB fo m then some m else nbB fo m
def nbEc (fo : Nat → Int32) : Nat → Nat → Option Nat
  | 0, _ => none
  | c + 1, j => if pureB fo j then some j else nbEc fo c (j + 1)
def nbE (fo : Nat → Int32) (n m : Nat) : Option Nat := nbEc fo (n - (m + 1)) (m + 1)
theorem nbB_lt {fo : Nat → Int32} : ∀ {m x : Nat}, nbB fo m = some x → x < m ∧ pureB fo x = true
  | 0, x, h => by simp [nbB] at h
  | m + 1, x, h => by
    unfold nbB at h
    by_cases hp : pureB fo m = true
    · rw [if_pos hp] at h
      cases h
      exact ⟨by omega, hp⟩
    · rw [if_neg hp] at h
      have := nbB_lt h
      exact ⟨by omega, this.2⟩
theorem nbEc_lt {fo : Nat → Int32} : ∀ {c j x : Nat}, nbEc fo c j = some x → j ≤ x ∧ x < j + c ∧ pureB fo x = true
  | 0, j, x, h => by simp [nbEc] at h
  | c + 1, j, x, h => by
    unfold nbEc at h
    by_cases hp : pureB fo j = true
    · rw [if_pos hp] at h
      cases h
      exact ⟨by omega, by omega, hp⟩
    · rw [if_neg hp] at h
      have := nbEc_lt h
      exact ⟨by omega, by omega, this.2.2⟩
theorem nbE_lt {fo : Nat → Int32} {n m x : Nat} (h : nbE fo n m = some x) : m < x ∧ x < n ∧ pureB fo x = true := by
  have := nbEc_lt h
  exact ⟨by omega, by omega, this.2.2⟩
/-- the hind one of the border whose fore one is m -/
def bord (fo kd : Nat → Int32) (m : Nat) : Option Nat := if pureB fo m then (match nbB fo m with
  | some x => if eqB (kd x) (kd m) then none else some x
  | none => none) else none
def kx (kd : Nat → Int32) (h f : Nat) : Nat := tn (kd h) * 8 + tn (kd f)
def clB (may kd : Nat → Int32) (a b : Option Nat) : Bool := match a, b with
  | some h, some f => eqB (may (kx kd h f)) 0
  | _, _ => false
def clashB (may kd fo : Nat → Int32) (n m : Nat) : Bool := if pureB fo m then clB may kd (nbB fo m) (some m) || clB may kd (some m) (nbE fo n m) else clB may kd (nbB fo m) (nbE fo n m)
def evB (h f : Nat) : Bool := decide ((f - h - 1) % 2 = 0)
/-- a border goes one step: the far side of what is to mix now, and what was gone -/
def farS (mx kd w : Nat → Int32) (h f : Nat) : Option Nat × (Nat → Int32) :=
  if mx (kx kd h f) = 0 then (none, w)
  else if (if w f < mx (kx kd h f) then upd w f (w f + 1) else w) f < mx (kx kd h f) then (none, if w f < mx (kx kd h f) then upd w f (w f + 1) else w)
  else (if evB h f then (if h = 0 then none else some (h - 1)) else some (f + 1), if w f < mx (kx kd h f) then upd w f (w f + 1) else w)
abbrev Pst : Type := (Nat → Int32) × (Nat → Int32) × (Nat → Int32)
/-- one measure more becomes mixed -/
def mixOneS (b : Nat → Int32) (q : Pst) (h f g : Nat) : Pst :=
  if pureB q.2.1 g && eqB (b g) (b (if evB h f then h else f)) then (upd q.1 (if evB h f then h else f) (q.1 h), upd q.2.1 (if evB h f then h else f) (q.1 f), upd q.2.2 (if evB h f then f else g) 0) else q
/-- what a border does in a step -/
def coreS (mx b : Nat → Int32) (lo hi : Nat) (q : Pst) (h f : Nat) : Pst := match (farS mx q.1 q.2.2 h f).1 with
  | none => (q.1, q.2.1, (farS mx q.1 q.2.2 h f).2)
  | some g => if lo ≤ g ∧ g < hi then mixOneS b (q.1, q.2.1, (farS mx q.1 q.2.2 h f).2) h f g else (q.1, q.2.1, (farS mx q.1 q.2.2 h f).2)
/-- the class: one pass, with the pure one that was seen last -/
def mixStep (mx b : Nat → Int32) (lo hi h : Nat) (u : Option Nat × Pst) : Option Nat × Pst := if pureB u.2.2.1 h then (some h, match u.1 with
  | none => u.2
  | some f => if eqB (u.2.1 h) (u.2.1 f) then u.2 else coreS mx b lo hi u.2 h f) else u
def mixC (mx b : Nat → Int32) (lo hi : Nat) : Nat → Option Nat × Pst → Option Nat × Pst
  | 0, u => u
  | c + 1, u => mixC mx b lo hi c (mixStep mx b lo hi (lo + c) u)
/-- the reference: border by border -/
def mixMStep (mx b : Nat → Int32) (lo hi y : Nat) (q : Pst) : Pst := match bord q.2.1 q.1 y with
  | none => q
  | some x => if x < lo then q else coreS mx b lo hi q x y
def mixM (mx b : Nat → Int32) (lo hi : Nat) : Nat → Pst → Pst
  | 0, q => q
  | c + 1, q => mixM mx b lo hi c (mixMStep mx b lo hi (lo + c) q)
/-- wishes -/
def wantS (wt wm wc ca : Nat → Int32) (w : Nat) : Int32 := if nI 0 < wm w - (ca (tn (wt w)) - wc w) then wm w - (ca (tn (wt w)) - wc w) else nI 0
def lateS (kp wb : Nat → Int32) (t : Int32) (w : Nat) : Int32 := if nI 0 < (if eqB (kp w) (-1) then t else kp w) - wb w then (if eqB (kp w) (-1) then t else kp w) - wb w else nI 0
def sumI (f : Nat → Int32) : Nat → Int32
  | 0 => nI 0
  | n + 1 => sumI f n + f n
theorem sumI_congr {f g : Nat → Int32} : ∀ {n : Nat}, (∀ i, i < n → f i = g i) → sumI f n = sumI g n
  | 0, _ => rfl
  | n + 1, h => by rw [sumI, sumI, sumI_congr (fun i hi => h i (by omega)), h n (by omega)]
def keepF (kp wa : Nat → Int32) (t : Int32) (n : Nat) : Nat → Int32 := fun j => if j < n ∧ kp j = -1 ∧ wa j = 0 then t else kp j
theorem keepF_0 (kp wa : Nat → Int32) (t : Int32) : keepF kp wa t 0 = kp := by
  funext j
  simp [keepF]
theorem keepF_t {kp wa : Nat → Int32} {t : Int32} {i : Nat} (h1 : kp i = -1) (h2 : wa i = 0) : keepF kp wa t (i + 1) = upd (keepF kp wa t i) i t := by
  funext j
  by_cases hj : j = i
  · subst hj
    simp [keepF, upd, h1, h2]
  · simp only [keepF, upd, if_neg hj, show (j < i + 1) = (j < i) by simp; omega]
theorem keepF_f {kp wa : Nat → Int32} {t : Int32} {i : Nat} (h : ¬ (kp i = -1 ∧ wa i = 0)) : keepF kp wa t (i + 1) = keepF kp wa t i := by
  funext j
  by_cases hj : j = i
  · subst hj
    simp only [keepF]
    rw [if_neg (fun q => h q.2), if_neg (fun q => h q.2)]
  · simp only [keepF, show (j < i + 1) = (j < i) by simp; omega]
theorem keepF_at {kp wa : Nat → Int32} {t : Int32} {i : Nat} : keepF kp wa t i i = kp i := by simp [keepF]
/-- a mixed one may come out into a tank -/
def bearB (fo am : Nat → Int32) (g : Int32) (t : Nat) : Bool := decide ((fo t + nI 1) * nI 100 ≤ g * (am t + nI 1))
theorem iincM1 (x : Int32) : x + Int32.ofInt (-1) = x - nI 1 := by
  rw [show Int32.ofInt (-1) = -1 by decide, Int32.sub_eq_add_neg]
  rfl
theorem nI_m1 : nI 0 - nI 1 < 0 := by decide
theorem m1_eq : nI 0 - nI 1 = -1 := by decide
theorem predN (c : Nat) : nI (c + 1) - nI 1 = nI c := nI_pred c
end
section
theorem cm_startF {l : Launch} {G : GT} {N K : Nat} {ad : Nat → Nat} {M : Mem} {y : MethodName} {cd : ByteArray} {mL fr lo : Nat} {ty : FieldType} {av : List Value} {post : Int32 → Mem → Prop} (hy : plainFor y = true) (hn : (lg_sl av).length ≤ mL)
    (body : ∀ (p : Program) (e : Env) (s : State) (m : MethodId) (below : List Frame) (meth : Method) (c : Code) (ls : Array Slot), CallFix p m c cd mL s av.toArray TB y.cls → meth.sig.returnType = some ty → meth.locks = false → Wd G N K ad M s s.heap [] → lv_has ls mL (lv_args 0 av) →
      W p l e { frames := fr, cells := 0, slots := 0, locals := lo } s m av.toArray below meth c s.heap [] 0 0 (QmI G N K ad post below av.toArray s) (F0 m 0 ls [])) : CmI l G N K ad y cd mL ty fr lo av M post := by
  refine va_MetF (cc := cd) (maxL := mL) (ret := some ty) hy rfl ?_
  intro p e s m args below meth c s₁ B hml hv
  obtain ⟨rfl, hH⟩ := hv
  have hts := atoms_spec (ws := .code y cd mL (some ty) :: TB) B.pre
  have hl := lv_entry av (n := mL) hn
  rw [lg_entry_eq]
  exact body p e s m below meth c _ ⟨B.exec, B.bytes, hml, findClass_of_methodNamed B.named, fun w hw => hts w (List.mem_cons_of_mem _ hw)⟩ B.returns B.notSynchronized hH.start hl
end
section
theorem opt_cases (o : Option Nat) : o = none ∨ ∃ x, o = some x := by
  cases o with
  | none => exact Or.inl rfl
  | some x => exact Or.inr ⟨x, rfl⟩
theorem nbB_t {fo : Nat → Int32} {m : Nat} (h : pureB fo m = true) : nbB fo (m + 1) = some m := by rw [nbB, if_pos h]
theorem nbB_f {fo : Nat → Int32} {m : Nat} (h : pureB fo m = false) : nbB fo (m + 1) = nbB fo m := by rw [nbB, if_neg (by rw [h]; decide)]
theorem nbEc_t {fo : Nat → Int32} {c j : Nat} (h : pureB fo j = true) : nbEc fo (c + 1) j = some j := by rw [nbEc, if_pos h]
theorem nbEc_f {fo : Nat → Int32} {c j : Nat} (h : pureB fo j = false) : nbEc fo (c + 1) j = nbEc fo c (j + 1) := by rw [nbEc, if_neg (by rw [h]; decide)]
/-- the last number in front of m, the first from j on, that p holds of -/
def lstB (p : Nat → Bool) : Nat → Option Nat
  | 0 => none
  | m + 1 => if p m then some m else lstB p m
def fstE (p : Nat → Bool) : Nat → Nat → Option Nat
  | 0, _ => none
  | c + 1, j => if p j then some j else fstE p c (j + 1)
theorem lstB_t {p : Nat → Bool} {m : Nat} (h : p m = true) : lstB p (m + 1) = some m := by rw [lstB, if_pos h]
theorem lstB_f {p : Nat → Bool} {m : Nat} (h : p m = false) : lstB p (m + 1) = lstB p m := by rw [lstB, if_neg (by rw [h]; decide)]
theorem fstE_t {p : Nat → Bool} {c j : Nat} (h : p j = true) : fstE p (c + 1) j = some j := by rw [fstE, if_pos h]
theorem fstE_f {p : Nat → Bool} {c j : Nat} (h : p j = false) : fstE p (c + 1) j = fstE p c (j + 1) := by rw [fstE, if_neg (by rw [h]; decide)]
theorem bord_s {fo kd : Nat → Int32} {m x : Nat} (h1 : pureB fo m = true) (h2 : nbB fo m = some x) (h3 : ¬ kd x = kd m) : bord fo kd m = some x := by simp [bord, h1, h2, eqB_f h3]
theorem bord_n1 {fo kd : Nat → Int32} {m : Nat} (h1 : pureB fo m = false) : bord fo kd m = none := by simp [bord, h1]
theorem bord_n2 {fo kd : Nat → Int32} {m : Nat} (h2 : nbB fo m = none) : bord fo kd m = none := by simp [bord, h2]
theorem bord_n3 {fo kd : Nat → Int32} {m x : Nat} (h2 : nbB fo m = some x) (h3 : kd x = kd m) : bord fo kd m = none := by simp [bord, h2, eqB_t h3]
theorem bord_lt {fo kd : Nat → Int32} {m x : Nat} (h : bord fo kd m = some x) : x < m ∧ pureB fo x = true ∧ pureB fo m = true ∧ nbB fo m = some x ∧ ¬ kd x = kd m := by
  unfold bord at h
  by_cases hp : pureB fo m = true
  · rw [if_pos hp] at h
    cases hn : nbB fo m with
    | none => rw [hn] at h; cases h
    | some y =>
      rw [hn] at h
      simp only [] at h
      by_cases he : kd y = kd m
      · rw [eqB_t he] at h; simp at h
      · rw [eqB_f he] at h
        simp at h
        subst h
        exact ⟨(nbB_lt hn).1, (nbB_lt hn).2, hp, rfl, he⟩
  · rw [if_neg hp] at h
    cases h
theorem isS_t {o : Option Nat} {x : Nat} (h : o = some x) : o.isSome = true := by rw [h]; rfl
theorem isS_f {o : Option Nat} (h : o = none) : o.isSome = false := by rw [h]; rfl
theorem enc_n {o : Option Nat} (h : o = none) : enc o = -1 := by rw [h]; rfl
theorem enc_s {o : Option Nat} {x : Nat} (h : o = some x) : enc o = nI x := by rw [h]; rfl
theorem evB_t {h f : Nat} (hf : h < f) (hl : f < 2 ^ 31) (c : nI ((f - h) - 1) - nI ((f - h) - 1) / nI 2 * nI 2 = 0) : evB h f = true := by
  rw [pk_rem (by omega) (by decide) (by decide)] at c
  have : (f - h - 1) % 2 = 0 := by
    have h2 : (f - h - 1) % 2 < 2 := Nat.mod_lt _ (by decide)
    have := (nI_eq (b := 0) (by omega) (by decide)).mp c
    exact this
  simp [evB, this]
theorem evB_f {h f : Nat} (hf : h < f) (hl : f < 2 ^ 31) (c : ¬ nI ((f - h) - 1) - nI ((f - h) - 1) / nI 2 * nI 2 = 0) : evB h f = false := by
  rw [pk_rem (by omega) (by decide) (by decide)] at c
  have : ¬ (f - h - 1) % 2 = 0 := fun q => c (by rw [q]; rfl)
  simp [evB, this]
theorem clB_n1 {may kd : Nat → Int32} {b : Option Nat} : clB may kd none b = false := by cases b <;> rfl
theorem clB_n2 {may kd : Nat → Int32} {a : Option Nat} : clB may kd a none = false := by cases a <;> rfl
theorem clB_s {may kd : Nat → Int32} {h f : Nat} : clB may kd (some h) (some f) = eqB (may (kx kd h f)) 0 := rfl
/-- a row of truths -/
def Z01 (f : Nat → Int32) (n : Nat) : Prop := ∀ i, i < n → f i = b01 (!eqB (f i) 0)
theorem not_t {b : Bool} (h : (!b) = true) : b = false := by cases b; rfl; cases h
theorem not_f {b : Bool} (h : (!b) = false) : b = true := by cases b; cases h; rfl
theorem kx_of {kd : Nat → Int32} {h f a b : Nat} (ha : kd h = nI a) (hb : kd f = nI b) (ha8 : a < 8) (hb8 : b < 8) : kx kd h f = a * 8 + b := by
  simp only [kx, ha, hb, tn_nI (show a < 2 ^ 31 by omega), tn_nI (show b < 2 ^ 31 by omega)]
theorem cpy_0 {f g : Nat → Int32} {n j : Nat} (h : j < n) : va_cpy f g 0 0 n j = f j := by rw [pk_cpy_in (by omega) (by omega)]; simp
def Kin (kd : Nat → Int32) (n : Nat) : Prop := ∀ j, j < n → inB (kd j) 8 = true
end
section
set_option maxHeartbeats 4000000 in
set_option maxRecDepth 100000 in
/-- OilLine.within -/
theorem c_X7_within (l : Launch) (G : GT) (N K : Nat) (ad : Nat → Nat) (M : Mem) (v lo hi : Int32) : CrI l G N K ad yX7_within cX7_within 3 .boolean 0 0 [.int v, .int lo, .int hi] M (b01 (wi v lo hi)) := by
  refine cm_startI (by decide +kernel) (Nat.le_of_ble_eq_true rfl) ?_
  intro p e s m below meth c ls S hr hlocks hw hl
  have hl : lv_has ls 3 [(0, .int v), (1, .int lo), (2, .int hi)] := hl
  refine lv_iload_n S.1 S.2.1 dX7_within_0 rfl (lv_at hl 1 rfl) ?_
  refine lv_iload_n S.1 S.2.1 dX7_within_1 rfl (lv_at hl 0 rfl) ?_
  refine lv_icmp_gt (tgt := 14) S.1 S.2.1 dX7_within_2 (by decide) (fun c1 => ?_) (fun c1 => ?_)
  · refine lv_iconst (v := nI 0) S.1 S.2.1 dX7_within_14 (by decide) ?_
    exact m_retz S hr hlocks hw dX7_within_15 rfl ⟨wi_f1 c1, rfl⟩
  · refine lv_iload_n S.1 S.2.1 dX7_within_5 rfl (lv_at hl 0 rfl) ?_
    refine lv_iload_n S.1 S.2.1 dX7_within_6 rfl (lv_at hl 2 rfl) ?_
    refine lv_icmp_gt (tgt := 14) S.1 S.2.1 dX7_within_7 (by decide) (fun c2 => ?_) (fun c2 => ?_)
    · refine lv_iconst (v := nI 0) S.1 S.2.1 dX7_within_14 (by decide) ?_
      exact m_retz S hr hlocks hw dX7_within_15 rfl ⟨wi_f2 c2, rfl⟩
    · refine lv_iconst (v := nI 1) S.1 S.2.1 dX7_within_10 (by decide) ?_
      refine lv_goto (tgt := 15) S.1 S.2.1 dX7_within_11 (by decide) ?_
      exact m_retz S hr hlocks hw dX7_within_15 rfl ⟨wi_t c1 c2, rfl⟩

set_option maxHeartbeats 4000000 in
set_option maxRecDepth 100000 in
/-- OilLine.isKind -/
theorem c_X7_isKind (l : Launch) (G : GT) (N K : Nat) (ad : Nat → Nat) (M : Mem) (x : Int32) : CrI l G N K ad yX7_isKind cX7_isKind 1 .boolean 1 22 [.int x] M (b01 (inB x 8)) := by
  refine cm_startI (by decide +kernel) (Nat.le_of_ble_eq_true rfl) ?_
  intro p e s m below meth c ls S hr hlocks hw hl
  have hl : lv_has ls 1 [(0, .int x)] := hl
  refine lv_iload_n S.1 S.2.1 dX7_isKind_0 rfl (lv_at hl 0 rfl) ?_
  refine lv_iconst (v := nI 0) S.1 S.2.1 dX7_isKind_1 (by decide) ?_
  refine lv_bipush (v := nI 7) S.1 S.2.1 dX7_isKind_2 (by decide) ?_
  refine r_SI (As := [.int x, .int (nI 0), .int (nI 7)]) (rest := []) S hw (c_X7_within l G N K ad M x (nI 0) (nI 7)) mf_X7_within wm_X7_63 ⟨by decide, by decide⟩ ⟨Nat.le_refl _, Nat.le_refl _⟩ hl.1 rfl (Nat.le_of_ble_eq_true rfl) dX7_isKind_4 (fun H locs hw => ?_)
  exact m_retz S hr hlocks hw dX7_isKind_7 (b01_n _) ⟨by rw [wi_upto x (by decide)], rfl⟩

set_option maxHeartbeats 4000000 in
set_option maxRecDepth 100000 in
/-- OilLine.tankNumber -/
theorem c_X7_tankNumber (l : Launch) (G : GT) (N K : Nat) (ad : Nat → Nat) (M : Mem) (d k : Nat) : CrI l G N K ad yX7_tankNumber cX7_tankNumber 2 .int 0 0 [.int (nI d), .int (nI k)] M (nI (d * 8 + k)) := by
  refine cm_startI (by decide +kernel) (Nat.le_of_ble_eq_true rfl) ?_
  intro p e s m below meth c ls S hr hlocks hw hl
  have hl : lv_has ls 2 [(0, .int (nI d)), (1, .int (nI k))] := hl
  refine lv_iload_n S.1 S.2.1 dX7_tankNumber_0 rfl (lv_at hl 0 rfl) ?_
  refine lv_bipush (v := nI 8) S.1 S.2.1 dX7_tankNumber_1 (by decide) ?_
  refine lv_imul S.1 S.2.1 dX7_tankNumber_3 ?_
  refine m_top (show (nI d) * (nI 8) = nI (d * 8) from pk_mul _ _) ?_
  refine lv_iload_n S.1 S.2.1 dX7_tankNumber_4 rfl (lv_at hl 1 rfl) ?_
  refine lv_iadd S.1 S.2.1 dX7_tankNumber_5 ?_
  refine m_top (show (nI (d * 8)) + (nI k) = nI ((d * 8) + k) from nI_add _ _) ?_
  exact m_reti S hr hlocks hw dX7_tankNumber_6 ⟨rfl, rfl⟩

set_option maxHeartbeats 4000000 in
set_option maxRecDepth 100000 in
/-- OilLine.exchange -/
theorem c_X7_exchange (l : Launch) (G : GT) (N K : Nat) (ad : Nat → Nat) (M : Mem) (q n : Nat) (hq : q < N) (hs : shp q = (0, n, [])) (hn : n < 2147483648) (j : Nat) (hj : j < n) (v : Int32) : CmI l G N K ad yX7_exchange cX7_exchange 4 .int 0 0 [.ref (ad q), .int (nI j), .int v] M (fun r M1 => r = M q j ∧ M1 = va_up M q (upd (M q) j v)) := by
  refine cm_startI (by decide +kernel) (Nat.le_of_ble_eq_true rfl) ?_
  intro p e s m below meth c ls S hr hlocks hw hl
  have hl : lv_has ls 4 [(0, .ref (ad q)), (1, .int (nI j)), (2, .int v)] := hl
  refine lv_aload_n S.1 S.2.1 dX7_exchange_0 rfl (lv_at hl 0 rfl) ?_
  refine lv_iload_n S.1 S.2.1 dX7_exchange_1 rfl (lv_at hl 1 rfl) ?_
  refine m_ald q j S hw (by omega) hs hn (by omega) rfl dX7_exchange_2 ?_
  refine lv_istore_n (lv' := [(3, .int (M q j)), (0, .ref (ad q)), (1, .int (nI j)), (2, .int v)]) S.1 S.2.1 dX7_exchange_3 rfl hl (by decide) rfl (fun ls hl => ?_)
  refine lv_aload_n S.1 S.2.1 dX7_exchange_4 rfl (lv_at hl 1 rfl) ?_
  refine lv_iload_n S.1 S.2.1 dX7_exchange_5 rfl (lv_at hl 2 rfl) ?_
  refine lv_iload_n S.1 S.2.1 dX7_exchange_6 rfl (lv_at hl 3 rfl) ?_
  refine n_ast q j S hw (by omega) hs hn (by omega) rfl dX7_exchange_7 (fun M1 H locs eM1 hw => ?_)
  refine lv_iload_n S.1 S.2.1 dX7_exchange_8 rfl (lv_at hl 0 rfl) ?_
  exact m_reti S hr hlocks hw dX7_exchange_9 ⟨rfl, eM1⟩

set_option maxHeartbeats 4000000 in
set_option maxRecDepth 100000 in
/-- Doors.has -/
theorem c_X0_has (l : Launch) (G : GT) (N K : Nat) (ad : Nat → Nat) (M : Mem) (h34 : 34 ≤ N) (D : Nat) (hD : M 6 0 = nI D) (hD6 : D ≤ 6) (x : Int32) : CrI l G N K ad yX0_has cX0_has 2 .boolean 1 22 [.ref (ad 6), .int x] M (b01 (inB x D)) := by
  refine cm_startI (by decide +kernel) (Nat.le_of_ble_eq_true rfl) ?_
  intro p e s m below meth c ls S hr hlocks hw hl
  have hl : lv_has ls 2 [(0, .ref (ad 6)), (1, .int x)] := hl
  refine lv_iload_n S.1 S.2.1 dX0_has_0 rfl (lv_at hl 1 rfl) ?_
  refine lv_iconst (v := nI 0) S.1 S.2.1 dX0_has_1 (by decide) ?_
  refine lv_aload_n S.1 S.2.1 dX0_has_2 rfl (lv_at hl 0 rfl) ?_
  refine m_getI 6 0 S hw (by omega) rfl rfl rfl in_X0 (by decide) wf_X0_9 dX0_has_3 ?_
  refine m_top (show M 6 0 = nI D from hD) ?_
  refine lv_iconst (v := nI 1) S.1 S.2.1 dX0_has_6 (by decide) ?_
  refine lv_isub S.1 S.2.1 dX0_has_7 ?_
  refine r_NI (As := [.int x, .int (nI 0), .int ((nI D) - (nI 1))]) (rest := []) S hw (c_X7_within l G N K ad M x (nI 0) ((nI D) - (nI 1))) mf_X7_within (List.mem_of_getElem? (i := 6) rfl) ⟨by decide, by decide⟩ ⟨Nat.le_refl _, Nat.le_refl _⟩ hl.1 rfl (Nat.le_of_ble_eq_true rfl) dX0_has_8 (fun H locs hw => ?_)
  exact m_retz S hr hlocks hw dX0_has_11 (b01_n _) ⟨by rw [wi_pred x (by omega)], rfl⟩

set_option maxHeartbeats 4000000 in
set_option maxRecDepth 100000 in
/-- Doors.isTaken -/
theorem c_X0_isTaken (l : Launch) (G : GT) (N K : Nat) (ad : Nat → Nat) (M : Mem) (h34 : 34 ≤ N) (D : Nat) (hD : M 6 0 = nI D) (hD6 : D ≤ 6) (x : Int32) : CrI l G N K ad yX0_isTaken cX0_isTaken 3 .boolean 0 0 [.ref (ad 6), .int x] M (b01 (anyB (fun d => eqB (M 7 d) x) D)) := by
  refine cm_startI (by decide +kernel) (Nat.le_of_ble_eq_true rfl) ?_
  intro p e s m below meth c ls S hr hlocks hw hl
  have hl : lv_has ls 3 [(0, .ref (ad 6)), (1, .int x)] := hl
  generalize hAv : List.toArray ([.ref (ad 6), .int x] : List Value) = A at S ⊢
  have loop : ∀ (n : Nat) (i : Nat), i + n = D → (∀ k, k < i → eqB (M 7 k) x = false) → ∀ (H : Heap) (locs : List Loc) (ls : Array Slot), Wd G N K ad M s H locs → lv_has ls 3 [(0, .ref (ad 6)), (1, .int x), (2, .int (nI i))] → W p l e { frames := 0, cells := 0, slots := 0, locals := 0 } s m A below meth c H locs 0 0 (QmI G N K ad (fun r M' => r = (b01 (anyB (fun d => eqB (M 7 d) x) D)) ∧ M' = M) below A s) (F0 m 2 ls []) := by
    intro n
    induction n with
    | zero =>
      intro i hi hno H locs ls hw hl
      refine lv_iload_n S.1 S.2.1 dX0_isTaken_2 rfl (lv_at hl 2 rfl) ?_
      refine lv_aload_n S.1 S.2.1 dX0_isTaken_3 rfl (lv_at hl 0 rfl) ?_
      refine m_getI 6 0 S hw (by omega) rfl rfl rfl in_X0 (by decide) wf_X0_9 dX0_isTaken_4 ?_
      refine m_top (show M 6 0 = nI D from hD) ?_
      refine n_ge (tgt := 28) S (by omega) (by omega) dX0_isTaken_7 (by decide) (fun c1 => ?_) (fun c1 => absurd c1 (by omega))
      refine lv_iconst (v := nI 0) S.1 S.2.1 dX0_isTaken_28 (by decide) ?_
      exact m_retz S hr hlocks hw dX0_isTaken_29 rfl ⟨b0_f (anyB_f (fun k hk => hno k (by omega))), rfl⟩
    | succ n ih =>
      intro i hi hno H locs ls hw hl
      refine lv_iload_n S.1 S.2.1 dX0_isTaken_2 rfl (lv_at hl 2 rfl) ?_
      refine lv_aload_n S.1 S.2.1 dX0_isTaken_3 rfl (lv_at hl 0 rfl) ?_
      refine m_getI 6 0 S hw (by omega) rfl rfl rfl in_X0 (by decide) wf_X0_9 dX0_isTaken_4 ?_
      refine m_top (show M 6 0 = nI D from hD) ?_
      refine n_ge (tgt := 28) S (by omega) (by omega) dX0_isTaken_7 (by decide) (fun c1 => absurd c1 (by omega)) (fun c1 => ?_)
      refine lv_aload_n S.1 S.2.1 dX0_isTaken_10 rfl (lv_at hl 0 rfl) ?_
      refine m_getR 6 1 7 S hw (by omega) rfl rfl rfl in_X0 (by decide) wf_X0_15 dX0_isTaken_11 ?_
      refine lv_iload_n S.1 S.2.1 dX0_isTaken_14 rfl (lv_at hl 2 rfl) ?_
      refine m_ald 7 i S hw (by omega) rfl (by decide) (by omega) rfl dX0_isTaken_15 ?_
      refine lv_iload_n S.1 S.2.1 dX0_isTaken_16 rfl (lv_at hl 1 rfl) ?_
      refine lv_icmp_ne (tgt := 22) S.1 S.2.1 dX0_isTaken_17 (by decide) (fun c2 => ?_) (fun c2 => ?_)
      · refine lv_iinc (v := nI (i + 1)) (lv' := [(2, .int (nI (i + 1))), (0, .ref (ad 6)), (1, .int x)]) S.1 S.2.1 dX0_isTaken_22 hl (k := 2) rfl (iinc1 _) (by decide) rfl (fun ls hl => ?_)
        refine lv_goto (tgt := 2) S.1 S.2.1 dX0_isTaken_25 (by decide) ?_
        exact ih (i + 1) (by omega) (lt_s hno (eqB_f c2)) _ _ ls hw (lv_sub hl [1, 2, 0] rfl)
      · refine lv_iconst (v := nI 1) S.1 S.2.1 dX0_isTaken_20 (by decide) ?_
        exact m_retz S hr hlocks hw dX0_isTaken_21 rfl ⟨b1_t (anyB_t (i := i) (eqB_t c2) (by omega)), rfl⟩
  refine lv_iconst (v := nI 0) S.1 S.2.1 dX0_isTaken_0 (by decide) ?_
  refine lv_istore_n (lv' := [(2, .int (nI 0)), (0, .ref (ad 6)), (1, .int x)]) S.1 S.2.1 dX0_isTaken_1 rfl hl (by decide) rfl (fun ls hl => ?_)
  exact loop D 0 (by omega) lt_0 _ _ ls hw (lv_sub hl [1, 2, 0] rfl)

set_option maxHeartbeats 4000000 in
set_option maxRecDepth 100000 in
/-- Doors.open -/
theorem c_X0_open (l : Launch) (G : GT) (N K : Nat) (ad : Nat → Nat) (M : Mem) (h34 : 34 ≤ N) (D : Nat) (hD : M 6 0 = nI D) (hD6 : D < 6) (x : Int32) : CmI l G N K ad yX0_open cX0_open 3 .int 0 0 [.ref (ad 6), .int x] M (fun r M1 => r = nI D ∧ M1 6 = upd (M 6) 0 (nI (D + 1)) ∧ M1 7 = upd (M 7) D x ∧ M1 8 = upd (M 8) D (nI 10) ∧ M1 9 = M 9 ∧ M1 10 = M 10 ∧ M1 11 = M 11 ∧ Fr 6 12 M M1) := by
  refine cm_startI (by decide +kernel) (Nat.le_of_ble_eq_true rfl) ?_
  intro p e s m below meth c ls S hr hlocks hw hl
  have hl : lv_has ls 3 [(0, .ref (ad 6)), (1, .int x)] := hl
  refine lv_aload_n S.1 S.2.1 dX0_open_0 rfl (lv_at hl 0 rfl) ?_
  refine m_getI 6 0 S hw (by omega) rfl rfl rfl in_X0 (by decide) wf_X0_9 dX0_open_1 ?_
  refine m_top (show M 6 0 = nI D from hD) ?_
  refine lv_istore_n (lv' := [(2, .int (nI D)), (0, .ref (ad 6)), (1, .int x)]) S.1 S.2.1 dX0_open_4 rfl hl (by decide) rfl (fun ls hl => ?_)
  refine lv_aload_n S.1 S.2.1 dX0_open_5 rfl (lv_at hl 1 rfl) ?_
  refine m_getR 6 1 7 S hw (by omega) rfl rfl rfl in_X0 (by decide) wf_X0_15 dX0_open_6 ?_
  refine lv_iload_n S.1 S.2.1 dX0_open_9 rfl (lv_at hl 0 rfl) ?_
  refine lv_iload_n S.1 S.2.1 dX0_open_10 rfl (lv_at hl 2 rfl) ?_
  refine n_ast 7 D S hw (by omega) rfl (by decide) (by omega) rfl dX0_open_11 (fun M1 H locs eM1 hw => ?_)
  refine lv_aload_n S.1 S.2.1 dX0_open_12 rfl (lv_at hl 1 rfl) ?_
  refine m_getR 6 2 8 S hw (by omega) rfl rfl rfl in_X0 (by decide) wf_X0_19 dX0_open_13 ?_
  refine lv_iload_n S.1 S.2.1 dX0_open_16 rfl (lv_at hl 0 rfl) ?_
  refine lv_bipush (v := nI 10) S.1 S.2.1 dX0_open_17 (by decide) ?_
  refine n_ast 8 D S hw (by omega) rfl (by decide) (by omega) rfl dX0_open_19 (fun M2 H locs eM2 hw => ?_)
  refine lv_aload_n S.1 S.2.1 dX0_open_20 rfl (lv_at hl 1 rfl) ?_
  refine lv_iload_n S.1 S.2.1 dX0_open_21 rfl (lv_at hl 0 rfl) ?_
  refine lv_iconst (v := nI 1) S.1 S.2.1 dX0_open_22 (by decide) ?_
  refine lv_iadd S.1 S.2.1 dX0_open_23 ?_
  refine m_top (show (nI D) + (nI 1) = nI (D + 1) from nI_add _ _) ?_
  refine n_putI 6 0 S hw (by omega) rfl rfl rfl in_X0 tyX0_ok nmX0 (by decide) rfl rfl wf_X0_9 dX0_open_24 (fun M3 H locs eM3 hw => ?_)
  refine lv_iload_n S.1 S.2.1 dX0_open_27 rfl (lv_at hl 0 rfl) ?_
  have hq4 : M1 6 = M 6 := by rw [eM1, va_up_ne _ _ (by omega)]
  have hq5 : M2 6 = M 6 := by rw [eM2, va_up_ne _ _ (by omega), hq4]
  have hq6 : M3 6 = upd (M 6) 0 (nI (D + 1)) := by rw [eM3, va_up_self, hq5]
  have hq7 : M1 7 = upd (M 7) D x := by rw [eM1, va_up_self]
  have hq8 : M2 7 = upd (M 7) D x := by rw [eM2, va_up_ne _ _ (by omega), hq7]
  have hq9 : M3 7 = upd (M 7) D x := by rw [eM3, va_up_ne _ _ (by omega), hq8]
  have hq10 : M1 8 = M 8 := by rw [eM1, va_up_ne _ _ (by omega)]
  have hq11 : M2 8 = upd (M 8) D (nI 10) := by rw [eM2, va_up_self, hq10]
  have hq12 : M3 8 = upd (M 8) D (nI 10) := by rw [eM3, va_up_ne _ _ (by omega), hq11]
  have hq13 : M1 9 = M 9 := by rw [eM1, va_up_ne _ _ (by omega)]
  have hq14 : M2 9 = M 9 := by rw [eM2, va_up_ne _ _ (by omega), hq13]
  have hq15 : M3 9 = M 9 := by rw [eM3, va_up_ne _ _ (by omega), hq14]
  have hq16 : M1 10 = M 10 := by rw [eM1, va_up_ne _ _ (by omega)]
  have hq17 : M2 10 = M 10 := by rw [eM2, va_up_ne _ _ (by omega), hq16]
  have hq18 : M3 10 = M 10 := by rw [eM3, va_up_ne _ _ (by omega), hq17]
  have hq19 : M1 11 = M 11 := by rw [eM1, va_up_ne _ _ (by omega)]
  have hq20 : M2 11 = M 11 := by rw [eM2, va_up_ne _ _ (by omega), hq19]
  have hq21 : M3 11 = M 11 := by rw [eM3, va_up_ne _ _ (by omega), hq20]
  exact m_reti S hr hlocks hw dX0_open_28 ⟨rfl, hq6, hq9, hq12, hq15, hq18, hq21, (by rw [eM3]; exact Fr.up (by rw [eM2]; exact Fr.up (by rw [eM1]; exact Fr.up Fr.rf (by omega) (by omega)) (by omega) (by omega)) (by omega) (by omega))⟩

set_option maxHeartbeats 4000000 in
set_option maxRecDepth 100000 in
/-- Doors.build -/
theorem c_X0_build (l : Launch) (G : GT) (N K : Nat) (ad : Nat → Nat) (M : Mem) (h34 : 34 ≤ N) (t : Nat) (ht : t < 48) (x y : Int32) : CmV l G N K ad yX0_build cX0_build 4 0 0 [.ref (ad 6), .int (nI t), .int x, .int y] M (fun M1 => M1 6 = M 6 ∧ M1 7 = M 7 ∧ M1 8 = M 8 ∧ M1 9 = upd (M 9) t (nI 1) ∧ M1 10 = upd (M 10) t x ∧ M1 11 = upd (M 11) t y ∧ Fr 6 12 M M1) := by
  refine cm_startV (by decide +kernel) (Nat.le_of_ble_eq_true rfl) ?_
  intro p e s m below meth c ls S hr hlocks hw hl
  have hl : lv_has ls 4 [(0, .ref (ad 6)), (1, .int (nI t)), (2, .int x), (3, .int y)] := hl
  refine lv_aload_n S.1 S.2.1 dX0_build_0 rfl (lv_at hl 0 rfl) ?_
  refine m_getR 6 3 9 S hw (by omega) rfl rfl rfl in_X0 (by decide) wf_X0_22 dX0_build_1 ?_
  refine lv_iload_n S.1 S.2.1 dX0_build_4 rfl (lv_at hl 1 rfl) ?_
  refine lv_iconst (v := nI 1) S.1 S.2.1 dX0_build_5 (by decide) ?_
  refine n_zst 9 t S hw (by omega) rfl (by decide) (by omega) rfl rfl dX0_build_6 (fun M1 H locs eM1 hw => ?_)
  refine lv_aload_n S.1 S.2.1 dX0_build_7 rfl (lv_at hl 0 rfl) ?_
  refine m_getR 6 4 10 S hw (by omega) rfl rfl rfl in_X0 (by decide) wf_X0_26 dX0_build_8 ?_
  refine lv_iload_n S.1 S.2.1 dX0_build_11 rfl (lv_at hl 1 rfl) ?_
  refine lv_iload_n S.1 S.2.1 dX0_build_12 rfl (lv_at hl 2 rfl) ?_
  refine n_ast 10 t S hw (by omega) rfl (by decide) (by omega) rfl dX0_build_13 (fun M2 H locs eM2 hw => ?_)
  refine lv_aload_n S.1 S.2.1 dX0_build_14 rfl (lv_at hl 0 rfl) ?_
  refine m_getR 6 5 11 S hw (by omega) rfl rfl rfl in_X0 (by decide) wf_X0_29 dX0_build_15 ?_
  refine lv_iload_n S.1 S.2.1 dX0_build_18 rfl (lv_at hl 1 rfl) ?_
  refine lv_iload_n S.1 S.2.1 dX0_build_19 rfl (lv_at hl 3 rfl) ?_
  refine n_ast 11 t S hw (by omega) rfl (by decide) (by omega) rfl dX0_build_20 (fun M3 H locs eM3 hw => ?_)
  have hq4 : M1 6 = M 6 := by rw [eM1, va_up_ne _ _ (by omega)]
  have hq5 : M2 6 = M 6 := by rw [eM2, va_up_ne _ _ (by omega), hq4]
  have hq6 : M3 6 = M 6 := by rw [eM3, va_up_ne _ _ (by omega), hq5]
  have hq7 : M1 7 = M 7 := by rw [eM1, va_up_ne _ _ (by omega)]
  have hq8 : M2 7 = M 7 := by rw [eM2, va_up_ne _ _ (by omega), hq7]
  have hq9 : M3 7 = M 7 := by rw [eM3, va_up_ne _ _ (by omega), hq8]
  have hq10 : M1 8 = M 8 := by rw [eM1, va_up_ne _ _ (by omega)]
  have hq11 : M2 8 = M 8 := by rw [eM2, va_up_ne _ _ (by omega), hq10]
  have hq12 : M3 8 = M 8 := by rw [eM3, va_up_ne _ _ (by omega), hq11]
  have hq13 : M1 9 = upd (M 9) t (nI 1) := by rw [eM1, va_up_self]
  have hq14 : M2 9 = upd (M 9) t (nI 1) := by rw [eM2, va_up_ne _ _ (by omega), hq13]
  have hq15 : M3 9 = upd (M 9) t (nI 1) := by rw [eM3, va_up_ne _ _ (by omega), hq14]
  have hq16 : M1 10 = M 10 := by rw [eM1, va_up_ne _ _ (by omega)]
  have hq17 : M2 10 = upd (M 10) t x := by rw [eM2, va_up_self, hq16]
  have hq18 : M3 10 = upd (M 10) t x := by rw [eM3, va_up_ne _ _ (by omega), hq17]
  have hq19 : M1 11 = M 11 := by rw [eM1, va_up_ne _ _ (by omega)]
  have hq20 : M2 11 = M 11 := by rw [eM2, va_up_ne _ _ (by omega), hq19]
  have hq21 : M3 11 = upd (M 11) t y := by rw [eM3, va_up_self, hq20]
  exact m_retv S hr hlocks hw dX0_build_21 ⟨hq6, hq9, hq12, hq15, hq18, hq21, (by rw [eM3]; exact Fr.up (by rw [eM2]; exact Fr.up (by rw [eM1]; exact Fr.up Fr.rf (by omega) (by omega)) (by omega) (by omega)) (by omega) (by omega))⟩

set_option maxHeartbeats 4000000 in
set_option maxRecDepth 100000 in
/-- Doors.clear -/
theorem c_X0_clear (l : Launch) (G : GT) (N K : Nat) (ad : Nat → Nat) (M : Mem) (h34 : 34 ≤ N) : CmV l G N K ad yX0_clear cX0_clear 2 0 0 [.ref (ad 6)] M (fun M1 => M1 6 = upd (M 6) 0 (nI 0) ∧ (∀ t, t < 48 → M1 9 t = 0) ∧ M1 7 = M 7 ∧ M1 8 = M 8 ∧ M1 10 = M 10 ∧ M1 11 = M 11 ∧ Fr 6 12 M M1) := by
  refine cm_startV (by decide +kernel) (Nat.le_of_ble_eq_true rfl) ?_
  intro p e s m below meth c ls S hr hlocks hw hl
  have hl : lv_has ls 2 [(0, .ref (ad 6))] := hl
  generalize hAv : List.toArray ([.ref (ad 6)] : List Value) = A at S ⊢
  have loop : ∀ (n : Nat) (i : Nat), i + n = 48 → ∀ (M2 : Mem) (H : Heap) (locs : List Loc) (ls : Array Slot), (M2 6 = upd (M 6) 0 (nI 0) ∧ (∀ t, t < i → M2 9 t = 0) ∧ M2 7 = M 7 ∧ M2 8 = M 8 ∧ M2 10 = M 10 ∧ M2 11 = M 11 ∧ Fr 6 12 M M2) → Wd G N K ad M2 s H locs → lv_has ls 2 [(0, .ref (ad 6)), (1, .int (nI i))] → W p l e { frames := 0, cells := 0, slots := 0, locals := 0 } s m A below meth c H locs 0 0 (QmV G N K ad (fun M1 => M1 6 = upd (M 6) 0 (nI 0) ∧ (∀ t, t < 48 → M1 9 t = 0) ∧ M1 7 = M 7 ∧ M1 8 = M 8 ∧ M1 10 = M 10 ∧ M1 11 = M 11 ∧ Fr 6 12 M M1) below A s) (F0 m 7 ls []) := by
    intro n
    induction n with
    | zero =>
      intro i hi M2 H locs ls hv hw hl
      refine lv_iload_n S.1 S.2.1 dX0_clear_7 rfl (lv_at hl 1 rfl) ?_
      refine lv_bipush (v := nI 48) S.1 S.2.1 dX0_clear_8 (by decide) ?_
      refine n_ge (tgt := 26) S (by omega) (by omega) dX0_clear_10 (by decide) (fun c1 => ?_) (fun c1 => absurd c1 (by omega))
      exact m_retv S hr hlocks hw dX0_clear_26 ⟨hv.1, fun t ht => hv.2.1 t (by omega), hv.2.2⟩
    | succ n ih =>
      intro i hi M2 H locs ls hv hw hl
      refine lv_iload_n S.1 S.2.1 dX0_clear_7 rfl (lv_at hl 1 rfl) ?_
      refine lv_bipush (v := nI 48) S.1 S.2.1 dX0_clear_8 (by decide) ?_
      refine n_ge (tgt := 26) S (by omega) (by omega) dX0_clear_10 (by decide) (fun c11 => absurd c11 (by omega)) (fun c11 => ?_)
      refine lv_aload_n S.1 S.2.1 dX0_clear_13 rfl (lv_at hl 0 rfl) ?_
      refine m_getR 6 3 9 S hw (by omega) rfl rfl rfl in_X0 (by decide) wf_X0_22 dX0_clear_14 ?_
      refine lv_iload_n S.1 S.2.1 dX0_clear_17 rfl (lv_at hl 1 rfl) ?_
      refine lv_iconst (v := nI 0) S.1 S.2.1 dX0_clear_18 (by decide) ?_
      refine n_zst 9 i S hw (by omega) rfl (by decide) (by omega) rfl rfl dX0_clear_19 (fun M12 H locs eM12 hw => ?_)
      refine lv_iinc (v := nI (i + 1)) (lv' := [(1, .int (nI (i + 1))), (0, .ref (ad 6))]) S.1 S.2.1 dX0_clear_20 hl (k := 1) rfl (iinc1 _) (by decide) rfl (fun ls hl => ?_)
      refine lv_goto (tgt := 7) S.1 S.2.1 dX0_clear_23 (by decide) ?_
      obtain ⟨i6, i9, i7, i8, i10, i11, ifr⟩ := hv
      have hq13 : M12 6 = M2 6 := by rw [eM12, va_up_ne _ _ (by omega)]
      have hq14 : M12 7 = M2 7 := by rw [eM12, va_up_ne _ _ (by omega)]
      have hq15 : M12 8 = M2 8 := by rw [eM12, va_up_ne _ _ (by omega)]
      have hq16 : M12 10 = M2 10 := by rw [eM12, va_up_ne _ _ (by omega)]
      have hq17 : M12 11 = M2 11 := by rw [eM12, va_up_ne _ _ (by omega)]
      refine ih (i + 1) (by omega) _ _ _ ls ⟨hq13.trans i6, ?_, hq14.trans i7, hq15.trans i8, hq16.trans i10, hq17.trans i11, (by rw [eM12]; exact Fr.up ifr (by omega) (by omega))⟩ hw (lv_sub hl [1, 0] rfl)
      rw [eM12, va_up_self]
      exact lt_s (fun a ha => (pk_un (by omega)).trans (i9 a ha)) pk_us
  refine lv_aload_n S.1 S.2.1 dX0_clear_0 rfl (lv_at hl 0 rfl) ?_
  refine lv_iconst (v := nI 0) S.1 S.2.1 dX0_clear_1 (by decide) ?_
  refine n_putI 6 0 S hw (by omega) rfl rfl rfl in_X0 tyX0_ok nmX0 (by decide) rfl rfl wf_X0_9 dX0_clear_2 (fun M1 H locs eM1 hw => ?_)
  refine lv_iconst (v := nI 0) S.1 S.2.1 dX0_clear_5 (by decide) ?_
  refine lv_istore_n (lv' := [(1, .int (nI 0)), (0, .ref (ad 6))]) S.1 S.2.1 dX0_clear_6 rfl hl (by decide) rfl (fun ls hl => ?_)
  have hq2 : M1 6 = upd (M 6) 0 (nI 0) := by rw [eM1, va_up_self]
  have hq3 : M1 7 = M 7 := by rw [eM1, va_up_ne _ _ (by omega)]
  have hq4 : M1 8 = M 8 := by rw [eM1, va_up_ne _ _ (by omega)]
  have hq5 : M1 10 = M 10 := by rw [eM1, va_up_ne _ _ (by omega)]
  have hq6 : M1 11 = M 11 := by rw [eM1, va_up_ne _ _ (by omega)]
  exact loop 48 0 (by omega) _ _ _ ls ⟨hq2, lt_0, hq3, hq4, hq5, hq6, (by rw [eM1]; exact Fr.up Fr.rf (by omega) (by omega))⟩ hw (lv_sub hl [1, 0] rfl)
end
section
set_option maxHeartbeats 4000000 in
set_option maxRecDepth 100000 in
/-- Arrays.fill -/
theorem c_J7_fill_53178 (l : Launch) (G : GT) (N K : Nat) (ad : Nat → Nat) (M : Mem) (q n : Nat) (hq : q < N) (hs : shp q = (0, n, [])) (hn : n < 2147483648) (v : Int32) : CmV l G N K ad yJ7_fill_53178 cJ7_fill_53178 4 0 0 [.ref (ad q), .int v] M (fun M1 => M1 q = (fun j => if j < n then v else M q j) ∧ Fr q (q + 1) M M1) := by
  refine cm_startV (by decide +kernel) (Nat.le_of_ble_eq_true rfl) ?_
  intro p e s m below meth c ls S hr hlocks hw hl
  have hl : lv_has ls 4 [(0, .ref (ad q)), (1, .int v)] := hl
  generalize hAv : List.toArray ([.ref (ad q), .int v] : List Value) = A at S ⊢
  have loop : ∀ (n' : Nat) (i : Nat), i + n' = n → ∀ (M2 : Mem) (H : Heap) (locs : List Loc) (ls : Array Slot), (M2 q = (fun j => if j < i then v else M q j) ∧ Fr q (q + 1) M M2) → Wd G N K ad M2 s H locs → lv_has ls 4 [(0, .ref (ad q)), (1, .int v), (2, .int (nI i)), (3, .int (nI n))] → W p l e { frames := 0, cells := 0, slots := 0, locals := 0 } s m A below meth c H locs 0 0 (QmV G N K ad (fun M1 => M1 q = (fun j => if j < n then v else M q j) ∧ Fr q (q + 1) M M1) below A s) (F0 m 5 ls []) := by
    intro n'
    induction n' with
    | zero =>
      intro i hi M2 H locs ls hv hw hl
      refine lv_iload_n S.1 S.2.1 dJ7_fill_53178_5 rfl (lv_at hl 2 rfl) ?_
      refine lv_iload_n S.1 S.2.1 dJ7_fill_53178_6 rfl (lv_at hl 3 rfl) ?_
      refine n_ge (tgt := 20) S (by omega) (by omega) dJ7_fill_53178_7 (by decide) (fun c1 => ?_) (fun c1 => absurd c1 (by omega))
      exact m_retv S hr hlocks hw dJ7_fill_53178_20 ⟨by rw [hv.1, show i = n by omega], hv.2⟩
    | succ n' ih =>
      intro i hi M2 H locs ls hv hw hl
      refine lv_iload_n S.1 S.2.1 dJ7_fill_53178_5 rfl (lv_at hl 2 rfl) ?_
      refine lv_iload_n S.1 S.2.1 dJ7_fill_53178_6 rfl (lv_at hl 3 rfl) ?_
      refine n_ge (tgt := 20) S (by omega) (by omega) dJ7_fill_53178_7 (by decide) (fun c11 => absurd c11 (by omega)) (fun c11 => ?_)
      refine lv_aload_n S.1 S.2.1 dJ7_fill_53178_10 rfl (lv_at hl 0 rfl) ?_
      refine lv_iload_n S.1 S.2.1 dJ7_fill_53178_11 rfl (lv_at hl 2 rfl) ?_
      refine lv_iload_n S.1 S.2.1 dJ7_fill_53178_12 rfl (lv_at hl 1 rfl) ?_
      refine n_ast q i S hw (by omega) hs hn (by omega) rfl dJ7_fill_53178_13 (fun M12 H locs eM12 hw => ?_)
      refine lv_iinc (v := nI (i + 1)) (lv' := [(2, .int (nI (i + 1))), (0, .ref (ad q)), (1, .int v), (3, .int (nI n))]) S.1 S.2.1 dJ7_fill_53178_14 hl (k := 2) rfl (iinc1 _) (by decide) rfl (fun ls hl => ?_)
      refine lv_goto (tgt := 5) S.1 S.2.1 dJ7_fill_53178_17 (by decide) ?_
      refine ih (i + 1) (by omega) _ _ _ ls ⟨?_, by rw [eM12]; exact Fr.up hv.2 (by omega) (by omega)⟩ hw (lv_sub hl [1, 2, 0, 3] rfl)
      rw [eM12, va_up_self, hv.1]
      funext j
      by_cases hj : j = i
      · subst hj; simp [upd]
      · simp only [upd, if_neg hj, show (j < i + 1) = (j < i) by simp; omega]
  refine lv_iconst (v := nI 0) S.1 S.2.1 dJ7_fill_53178_0 (by decide) ?_
  refine lv_istore_n (lv' := [(2, .int (nI 0)), (0, .ref (ad q)), (1, .int v)]) S.1 S.2.1 dJ7_fill_53178_1 rfl hl (by decide) rfl (fun ls hl => ?_)
  refine lv_aload_n S.1 S.2.1 dJ7_fill_53178_2 rfl (lv_at hl 1 rfl) ?_
  refine m_len q S hw (by omega) hs dJ7_fill_53178_3 ?_
  refine lv_istore_n (lv' := [(3, .int (nI n)), (2, .int (nI 0)), (0, .ref (ad q)), (1, .int v)]) S.1 S.2.1 dJ7_fill_53178_4 rfl hl (by decide) rfl (fun ls hl => ?_)
  exact loop n 0 (by omega) _ _ _ ls ⟨by simp, Fr.rf⟩ hw (lv_sub hl [2, 3, 1, 0] rfl)

theorem xor_pos {a : Nat} (h : a < 2 ^ 31) : 0 ≤ nI a ^^^ nI 24 := by
  have e : nI a ^^^ nI 24 = nI (a ^^^ 24) := by
    apply Int32.toBitVec_inj.mp
    simp only [nI, Int32.toBitVec_xor]
    show BitVec.ofNat 32 a ^^^ BitVec.ofNat 32 24 = BitVec.ofNat 32 (a ^^^ 24)
    rw [BitVec.ofNat_xor]
  rw [e]
  exact nI_pos' (Nat.xor_lt_two_pow h (by decide))

set_option maxHeartbeats 4000000 in
set_option maxRecDepth 100000 in
/-- Math.floorMod -/
theorem c_J9_floorMod_7cf53 (l : Launch) (G : GT) (N K : Nat) (ad : Nat → Nat) (M : Mem) (a : Nat) (ha : a < 2 ^ 31) : CrI l G N K ad yJ9_floorMod_7cf53 cJ9_floorMod_7cf53 3 .int 0 0 [.int (nI a), .int (nI 24)] M (nI (a % 24)) := by
  refine cm_startF (by decide +kernel) (Nat.le_of_ble_eq_true rfl) ?_
  intro p e s m below meth c ls S hr hlocks hw hl
  have hl : lv_has ls 3 [(0, .int (nI a)), (1, .int (nI 24))] := hl
  refine lv_iload_n S.1 S.2.1 dJ9_floorMod_7cf53_0 rfl (lv_at hl 0 rfl) ?_
  refine lv_iload_n S.1 S.2.1 dJ9_floorMod_7cf53_1 rfl (lv_at hl 1 rfl) ?_
  refine lv_irem S.1 S.2.1 dJ9_floorMod_7cf53_2 (by decide) ?_
  refine m_top (show (nI a) - (nI a) / (nI 24) * (nI 24) = nI (a % 24) from pk_rem ha (by decide) (by decide)) ?_
  refine lv_istore_n (lv' := [(2, .int (nI (a % 24))), (0, .int (nI a)), (1, .int (nI 24))]) S.1 S.2.1 dJ9_floorMod_7cf53_3 rfl hl (by decide) rfl (fun ls hl => ?_)
  refine lv_iload_n S.1 S.2.1 dJ9_floorMod_7cf53_4 rfl (lv_at hl 1 rfl) ?_
  refine lv_iload_n S.1 S.2.1 dJ9_floorMod_7cf53_5 rfl (lv_at hl 2 rfl) ?_
  refine lv_ixor S.1 S.2.1 dJ9_floorMod_7cf53_6 ?_
  refine lv_if_ge (tgt := 18) S.1 S.2.1 dJ9_floorMod_7cf53_7 (by decide) (fun c1 => ?_) (fun c1 => absurd c1 (fun z => z (xor_pos ha)))
  refine lv_iload_n S.1 S.2.1 dJ9_floorMod_7cf53_18 rfl (lv_at hl 0 rfl) ?_
  exact m_reti S hr hlocks hw dJ9_floorMod_7cf53_19 ⟨rfl, rfl⟩

set_option maxHeartbeats 4000000 in
set_option maxRecDepth 100000 in
/-- Tables.tellPair -/
theorem c_X5_tellPair (l : Launch) (G : GT) (N K : Nat) (ad : Nat → Nat) (M : Mem) (h34 : 34 ≤ N) (h f : Nat) (hh : h < 8) (hf : f < 8) (b : Bool) (x : Int32) : CmV l G N K ad yX5_tellPair cX5_tellPair 5 0 0 [.ref (ad 1), .int (nI h), .int (nI f), .int (b01 b), .int x] M (fun M1 => M1 2 = upd (M 2) (h * 8 + f) (b01 b) ∧ M1 3 = upd (M 3) (h * 8 + f) x ∧ M1 4 = M 4 ∧ M1 5 = M 5 ∧ Fr 1 6 M M1) := by
  refine cm_startV (by decide +kernel) (Nat.le_of_ble_eq_true rfl) ?_
  intro p e s m below meth c ls S hr hlocks hw hl
  have hl : lv_has ls 5 [(0, .ref (ad 1)), (1, .int (nI h)), (2, .int (nI f)), (3, .int (b01 b)), (4, .int x)] := hl
  refine lv_aload_n S.1 S.2.1 dX5_tellPair_0 rfl (lv_at hl 0 rfl) ?_
  refine m_getR 1 0 2 S hw (by omega) rfl rfl rfl in_X5 (by decide) wf_X5_9 dX5_tellPair_1 ?_
  refine lv_iload_n S.1 S.2.1 dX5_tellPair_4 rfl (lv_at hl 1 rfl) ?_
  refine lv_bipush (v := nI 8) S.1 S.2.1 dX5_tellPair_5 (by decide) ?_
  refine lv_imul S.1 S.2.1 dX5_tellPair_7 ?_
  refine m_top (show (nI h) * (nI 8) = nI (h * 8) from pk_mul _ _) ?_
  refine lv_iload_n S.1 S.2.1 dX5_tellPair_8 rfl (lv_at hl 2 rfl) ?_
  refine lv_iadd S.1 S.2.1 dX5_tellPair_9 ?_
  refine m_top (show (nI (h * 8)) + (nI f) = nI ((h * 8) + f) from nI_add _ _) ?_
  refine lv_iload_n S.1 S.2.1 dX5_tellPair_10 rfl (lv_at hl 3 rfl) ?_
  refine n_zst 2 ((h * 8) + f) S hw (by omega) rfl (by decide) (by omega) rfl (b01_v _) dX5_tellPair_11 (fun M1 H locs eM1 hw => ?_)
  refine lv_aload_n S.1 S.2.1 dX5_tellPair_12 rfl (lv_at hl 0 rfl) ?_
  refine m_getR 1 1 3 S hw (by omega) rfl rfl rfl in_X5 (by decide) wf_X5_15 dX5_tellPair_13 ?_
  refine lv_iload_n S.1 S.2.1 dX5_tellPair_16 rfl (lv_at hl 1 rfl) ?_
  refine lv_bipush (v := nI 8) S.1 S.2.1 dX5_tellPair_17 (by decide) ?_
  refine lv_imul S.1 S.2.1 dX5_tellPair_19 ?_
  refine m_top (show (nI h) * (nI 8) = nI (h * 8) from pk_mul _ _) ?_
  refine lv_iload_n S.1 S.2.1 dX5_tellPair_20 rfl (lv_at hl 2 rfl) ?_
  refine lv_iadd S.1 S.2.1 dX5_tellPair_21 ?_
  refine m_top (show (nI (h * 8)) + (nI f) = nI ((h * 8) + f) from nI_add _ _) ?_
  refine lv_iload S.1 S.2.1 dX5_tellPair_22 (lv_at hl 4 rfl) ?_
  refine n_ast 3 ((h * 8) + f) S hw (by omega) rfl (by decide) (by omega) rfl dX5_tellPair_24 (fun M2 H locs eM2 hw => ?_)
  have hq3 : M1 2 = upd (M 2) ((h * 8) + f) (b01 b) := by rw [eM1, va_up_self]
  have hq4 : M2 2 = upd (M 2) ((h * 8) + f) (b01 b) := by rw [eM2, va_up_ne _ _ (by omega), hq3]
  have hq5 : M1 3 = M 3 := by rw [eM1, va_up_ne _ _ (by omega)]
  have hq6 : M2 3 = upd (M 3) ((h * 8) + f) x := by rw [eM2, va_up_self, hq5]
  have hq7 : M1 4 = M 4 := by rw [eM1, va_up_ne _ _ (by omega)]
  have hq8 : M2 4 = M 4 := by rw [eM2, va_up_ne _ _ (by omega), hq7]
  have hq9 : M1 5 = M 5 := by rw [eM1, va_up_ne _ _ (by omega)]
  have hq10 : M2 5 = M 5 := by rw [eM2, va_up_ne _ _ (by omega), hq9]
  exact m_retv S hr hlocks hw dX5_tellPair_25 ⟨hq4, hq6, hq8, hq10, (by rw [eM2]; exact Fr.up (by rw [eM1]; exact Fr.up Fr.rf (by omega) (by omega)) (by omega) (by omega))⟩

set_option maxHeartbeats 4000000 in
set_option maxRecDepth 100000 in
/-- Tables.mayFollow -/
theorem c_X5_mayFollow (l : Launch) (G : GT) (N K : Nat) (ad : Nat → Nat) (M : Mem) (h34 : 34 ≤ N) (h f : Nat) (hh : h < 8) (hf : f < 8) (b : Bool) (hb : M 2 (h * 8 + f) = b01 b) : CrI l G N K ad yX5_mayFollow cX5_mayFollow 3 .boolean 0 0 [.ref (ad 1), .int (nI h), .int (nI f)] M (b01 b) := by
  refine cm_startI (by decide +kernel) (Nat.le_of_ble_eq_true rfl) ?_
  intro p e s m below meth c ls S hr hlocks hw hl
  have hl : lv_has ls 3 [(0, .ref (ad 1)), (1, .int (nI h)), (2, .int (nI f))] := hl
  refine lv_aload_n S.1 S.2.1 dX5_mayFollow_0 rfl (lv_at hl 0 rfl) ?_
  refine m_getR 1 0 2 S hw (by omega) rfl rfl rfl in_X5 (by decide) wf_X5_9 dX5_mayFollow_1 ?_
  refine lv_iload_n S.1 S.2.1 dX5_mayFollow_4 rfl (lv_at hl 1 rfl) ?_
  refine lv_bipush (v := nI 8) S.1 S.2.1 dX5_mayFollow_5 (by decide) ?_
  refine lv_imul S.1 S.2.1 dX5_mayFollow_7 ?_
  refine m_top (show (nI h) * (nI 8) = nI (h * 8) from pk_mul _ _) ?_
  refine lv_iload_n S.1 S.2.1 dX5_mayFollow_8 rfl (lv_at hl 2 rfl) ?_
  refine lv_iadd S.1 S.2.1 dX5_mayFollow_9 ?_
  refine m_top (show (nI (h * 8)) + (nI f) = nI ((h * 8) + f) from nI_add _ _) ?_
  refine m_zld 2 ((h * 8) + f) S hw (by omega) rfl (by decide) (by omega) rfl dX5_mayFollow_10 ?_
  refine m_top (show M 2 ((h * 8) + f) = b01 b from hb) ?_
  exact m_retz S hr hlocks hw dX5_mayFollow_11 (b01_n _) ⟨rfl, rfl⟩

set_option maxHeartbeats 4000000 in
set_option maxRecDepth 100000 in
/-- Tables.mixOf -/
theorem c_X5_mixOf (l : Launch) (G : GT) (N K : Nat) (ad : Nat → Nat) (M : Mem) (h34 : 34 ≤ N) (h f : Nat) (hh : h < 8) (hf : f < 8) : CrI l G N K ad yX5_mixOf cX5_mixOf 3 .int 0 0 [.ref (ad 1), .int (nI h), .int (nI f)] M (M 3 (h * 8 + f)) := by
  refine cm_startI (by decide +kernel) (Nat.le_of_ble_eq_true rfl) ?_
  intro p e s m below meth c ls S hr hlocks hw hl
  have hl : lv_has ls 3 [(0, .ref (ad 1)), (1, .int (nI h)), (2, .int (nI f))] := hl
  refine lv_aload_n S.1 S.2.1 dX5_mixOf_0 rfl (lv_at hl 0 rfl) ?_
  refine m_getR 1 1 3 S hw (by omega) rfl rfl rfl in_X5 (by decide) wf_X5_15 dX5_mixOf_1 ?_
  refine lv_iload_n S.1 S.2.1 dX5_mixOf_4 rfl (lv_at hl 1 rfl) ?_
  refine lv_bipush (v := nI 8) S.1 S.2.1 dX5_mixOf_5 (by decide) ?_
  refine lv_imul S.1 S.2.1 dX5_mixOf_7 ?_
  refine m_top (show (nI h) * (nI 8) = nI (h * 8) from pk_mul _ _) ?_
  refine lv_iload_n S.1 S.2.1 dX5_mixOf_8 rfl (lv_at hl 2 rfl) ?_
  refine lv_iadd S.1 S.2.1 dX5_mixOf_9 ?_
  refine m_top (show (nI (h * 8)) + (nI f) = nI ((h * 8) + f) from nI_add _ _) ?_
  refine m_ald 3 ((h * 8) + f) S hw (by omega) rfl (by decide) (by omega) rfl dX5_mixOf_10 ?_
  exact m_reti S hr hlocks hw dX5_mixOf_11 ⟨rfl, rfl⟩

set_option maxHeartbeats 4000000 in
set_option maxRecDepth 100000 in
/-- Tables.priceAt -/
theorem c_X5_priceAt (l : Launch) (G : GT) (N K : Nat) (ad : Nat → Nat) (M : Mem) (h34 : 34 ≤ N) (t : Nat) (ht : t < 2 ^ 31) : CrI l G N K ad yX5_priceAt cX5_priceAt 2 .int 1 22 [.ref (ad 1), .int (nI t)] M (M 5 (t % 24)) := by
  refine cm_startI (by decide +kernel) (Nat.le_of_ble_eq_true rfl) ?_
  intro p e s m below meth c ls S hr hlocks hw hl
  have hl : lv_has ls 2 [(0, .ref (ad 1)), (1, .int (nI t))] := hl
  refine lv_aload_n S.1 S.2.1 dX5_priceAt_0 rfl (lv_at hl 0 rfl) ?_
  refine m_getR 1 3 5 S hw (by omega) rfl rfl rfl in_X5 (by decide) wf_X5_22 dX5_priceAt_1 ?_
  refine lv_iload_n S.1 S.2.1 dX5_priceAt_4 rfl (lv_at hl 1 rfl) ?_
  refine lv_bipush (v := nI 24) S.1 S.2.1 dX5_priceAt_5 (by decide) ?_
  refine r_SI (As := [.int (nI t), .int (nI 24)]) (rest := [.ref (ad 5)]) S hw (c_J9_floorMod_7cf53 l G N K ad M t (by omega)) mf_J9_floorMod_7cf53 wm_X5_31 ⟨by decide, by decide⟩ ⟨Nat.le_refl _, Nat.le_refl _⟩ hl.1 rfl (Nat.le_of_ble_eq_true rfl) dX5_priceAt_7 (fun H locs hw => ?_)
  refine m_ald 5 (t % 24) S hw (by omega) rfl (by decide) (Nat.mod_lt _ (by decide)) rfl dX5_priceAt_10 ?_
  exact m_reti S hr hlocks hw dX5_priceAt_11 ⟨rfl, rfl⟩

set_option maxHeartbeats 4000000 in
set_option maxRecDepth 100000 in
/-- Stock.clear -/
theorem c_X4_clear (l : Launch) (G : GT) (N K : Nat) (ad : Nat → Nat) (M : Mem) (mb : Nat) (hm : IsM N K mb) : CmV l G N K ad yX4_clear cX4_clear 1 1 23 [.ref (ad (mb + 6))] M (fun M1 => M1 (mb + 7) = (M (mb + 7)) ∧ M1 (mb + 8) = (M (mb + 8)) ∧ M1 (mb + 9) = (M (mb + 9)) ∧ M1 (mb + 10) = (fun j => if j < 6 then nI 0 else M (mb + 10) j) ∧ Fr (mb + 6) (mb + 11) M M1) := by
  refine cm_startV (by decide +kernel) (Nat.le_of_ble_eq_true rfl) ?_
  intro p e s m below meth c ls S hr hlocks hw hl
  have hl : lv_has ls 1 [(0, .ref (ad (mb + 6)))] := hl
  have hlt_mb := hm.lt
  refine lv_aload_n S.1 S.2.1 dX4_clear_0 rfl (lv_at hl 0 rfl) ?_
  refine m_getR (mb + 6) 3 (mb + 10) S hw (by omega) hm.s6 rfl rfl in_X4 (by decide) wf_X4_21 dX4_clear_1 ?_
  refine lv_iconst (v := nI 0) S.1 S.2.1 dX4_clear_4 (by decide) ?_
  refine m_SV (As := [.ref (ad (mb + 10)), .int (nI 0)]) (rest := []) S hw (c_J7_fill_53178 l G N K ad M (mb + 10) 6 (by omega) hm.s10 (by decide) (nI 0)) mf_J7_fill_53178 wm_X4_24 ⟨by decide, by decide⟩ ⟨Nat.le_refl _, Nat.le_refl _⟩ hl.1 rfl (Nat.le_of_ble_eq_true rfl) dX4_clear_5 (fun M1 H locs hp1 hw => ?_)
  have emb_10_1 : M1 (mb + 10) = (fun j => if j < 6 then (nI 0) else M (mb + 10) j) := hp1.1
  have fr1 : Fr (mb + 10) (mb + 11) M M1 := hp1.2
  have hq2 : M1 (mb + 7) = M (mb + 7) := fr1 (mb + 7) (by omega)
  have hq3 : M1 (mb + 8) = M (mb + 8) := fr1 (mb + 8) (by omega)
  have hq4 : M1 (mb + 9) = M (mb + 9) := fr1 (mb + 9) (by omega)
  exact m_retv S hr hlocks hw dX4_clear_8 ⟨hq2, hq3, hq4, emb_10_1, (Fr.tr Fr.rf fr1 (by omega) (by omega))⟩

set_option maxHeartbeats 4000000 in
set_option maxRecDepth 100000 in
/-- Stock.copyFrom -/
theorem c_X4_copyFrom (l : Launch) (G : GT) (N K : Nat) (ad : Nat → Nat) (M : Mem) (mb : Nat) (hm : IsM N K mb) (mo : Nat) (ho : IsM N K mo) (hne : mo + 12 < mb ∨ mb + 12 < mo) : CmV l G N K ad yX4_copyFrom cX4_copyFrom 2 1 26 [.ref (ad (mb + 6)), .ref (ad (mo + 6))] M (fun M1 => M1 (mb + 7) = (va_cpy (M (mo + 7)) (M (mb + 7)) 0 0 48) ∧ M1 (mb + 8) = (va_cpy (M (mo + 8)) (M (mb + 8)) 0 0 48) ∧ M1 (mb + 9) = (va_cpy (M (mo + 9)) (M (mb + 9)) 0 0 48) ∧ M1 (mb + 10) = (va_cpy (M (mo + 10)) (M (mb + 10)) 0 0 6) ∧ Fr (mb + 6) (mb + 11) M M1) := by
  refine cm_startV (by decide +kernel) (Nat.le_of_ble_eq_true rfl) ?_
  intro p e s m below meth c ls S hr hlocks hw hl
  have hl : lv_has ls 2 [(0, .ref (ad (mb + 6))), (1, .ref (ad (mo + 6)))] := hl
  have hlt_mb := hm.lt
  have hlt_mo := ho.lt
  refine lv_aload_n S.1 S.2.1 dX4_copyFrom_0 rfl (lv_at hl 1 rfl) ?_
  refine m_getR (mo + 6) 0 (mo + 7) S hw (by omega) ho.s6 rfl rfl in_X4 (by decide) wf_X4_9 dX4_copyFrom_1 ?_
  refine lv_iconst (v := nI 0) S.1 S.2.1 dX4_copyFrom_4 (by decide) ?_
  refine lv_aload_n S.1 S.2.1 dX4_copyFrom_5 rfl (lv_at hl 0 rfl) ?_
  refine m_getR (mb + 6) 0 (mb + 7) S hw (by omega) hm.s6 rfl rfl in_X4 (by decide) wf_X4_9 dX4_copyFrom_6 ?_
  refine lv_iconst (v := nI 0) S.1 S.2.1 dX4_copyFrom_9 (by decide) ?_
  refine lv_bipush (v := nI 48) S.1 S.2.1 dX4_copyFrom_10 (by decide) ?_
  refine n_cpy (mo + 7) (mb + 7) 0 0 48 S hl.1 wm_X4_30 hw (by omega) (by omega) ho.s7 hm.s7 (by decide) (by decide) rfl rfl rfl (by omega) (by omega) (Nat.le_of_ble_eq_true rfl) (Nat.le_of_ble_eq_true rfl) dX4_copyFrom_12 (fun M1 H locs eM1 hw => ?_)
  refine lv_aload_n S.1 S.2.1 dX4_copyFrom_15 rfl (lv_at hl 1 rfl) ?_
  refine m_getR (mo + 6) 1 (mo + 8) S hw (by omega) ho.s6 rfl rfl in_X4 (by decide) wf_X4_15 dX4_copyFrom_16 ?_
  refine lv_iconst (v := nI 0) S.1 S.2.1 dX4_copyFrom_19 (by decide) ?_
  refine lv_aload_n S.1 S.2.1 dX4_copyFrom_20 rfl (lv_at hl 0 rfl) ?_
  refine m_getR (mb + 6) 1 (mb + 8) S hw (by omega) hm.s6 rfl rfl in_X4 (by decide) wf_X4_15 dX4_copyFrom_21 ?_
  refine lv_iconst (v := nI 0) S.1 S.2.1 dX4_copyFrom_24 (by decide) ?_
  refine lv_bipush (v := nI 48) S.1 S.2.1 dX4_copyFrom_25 (by decide) ?_
  refine n_cpy (mo + 8) (mb + 8) 0 0 48 S hl.1 wm_X4_30 hw (by omega) (by omega) ho.s8 hm.s8 (by decide) (by decide) rfl rfl rfl (by omega) (by omega) (Nat.le_of_ble_eq_true rfl) (Nat.le_of_ble_eq_true rfl) dX4_copyFrom_27 (fun M2 H locs eM2 hw => ?_)
  refine lv_aload_n S.1 S.2.1 dX4_copyFrom_30 rfl (lv_at hl 1 rfl) ?_
  refine m_getR (mo + 6) 2 (mo + 9) S hw (by omega) ho.s6 rfl rfl in_X4 (by decide) wf_X4_18 dX4_copyFrom_31 ?_
  refine lv_iconst (v := nI 0) S.1 S.2.1 dX4_copyFrom_34 (by decide) ?_
  refine lv_aload_n S.1 S.2.1 dX4_copyFrom_35 rfl (lv_at hl 0 rfl) ?_
  refine m_getR (mb + 6) 2 (mb + 9) S hw (by omega) hm.s6 rfl rfl in_X4 (by decide) wf_X4_18 dX4_copyFrom_36 ?_
  refine lv_iconst (v := nI 0) S.1 S.2.1 dX4_copyFrom_39 (by decide) ?_
  refine lv_bipush (v := nI 48) S.1 S.2.1 dX4_copyFrom_40 (by decide) ?_
  refine n_cpy (mo + 9) (mb + 9) 0 0 48 S hl.1 wm_X4_30 hw (by omega) (by omega) ho.s9 hm.s9 (by decide) (by decide) rfl rfl rfl (by omega) (by omega) (Nat.le_of_ble_eq_true rfl) (Nat.le_of_ble_eq_true rfl) dX4_copyFrom_42 (fun M3 H locs eM3 hw => ?_)
  refine lv_aload_n S.1 S.2.1 dX4_copyFrom_45 rfl (lv_at hl 1 rfl) ?_
  refine m_getR (mo + 6) 3 (mo + 10) S hw (by omega) ho.s6 rfl rfl in_X4 (by decide) wf_X4_21 dX4_copyFrom_46 ?_
  refine lv_iconst (v := nI 0) S.1 S.2.1 dX4_copyFrom_49 (by decide) ?_
  refine lv_aload_n S.1 S.2.1 dX4_copyFrom_50 rfl (lv_at hl 0 rfl) ?_
  refine m_getR (mb + 6) 3 (mb + 10) S hw (by omega) hm.s6 rfl rfl in_X4 (by decide) wf_X4_21 dX4_copyFrom_51 ?_
  refine lv_iconst (v := nI 0) S.1 S.2.1 dX4_copyFrom_54 (by decide) ?_
  refine lv_bipush (v := nI 6) S.1 S.2.1 dX4_copyFrom_55 (by decide) ?_
  refine n_cpy (mo + 10) (mb + 10) 0 0 6 S hl.1 wm_X4_30 hw (by omega) (by omega) ho.s10 hm.s10 (by decide) (by decide) rfl rfl rfl (by omega) (by omega) (Nat.le_of_ble_eq_true rfl) (Nat.le_of_ble_eq_true rfl) dX4_copyFrom_57 (fun M4 H locs eM4 hw => ?_)
  have hq5 : M1 (mb + 7) = va_cpy (M (mo + 7)) (M (mb + 7)) 0 0 48 := by rw [eM1, va_up_self]
  have hq6 : M2 (mb + 7) = va_cpy (M (mo + 7)) (M (mb + 7)) 0 0 48 := by rw [eM2, va_up_ne _ _ (by omega), hq5]
  have hq7 : M3 (mb + 7) = va_cpy (M (mo + 7)) (M (mb + 7)) 0 0 48 := by rw [eM3, va_up_ne _ _ (by omega), hq6]
  have hq8 : M4 (mb + 7) = va_cpy (M (mo + 7)) (M (mb + 7)) 0 0 48 := by rw [eM4, va_up_ne _ _ (by omega), hq7]
  have hq9 : M1 (mb + 8) = M (mb + 8) := by rw [eM1, va_up_ne _ _ (by omega)]
  have hq10 : M1 (mo + 8) = M (mo + 8) := by rw [eM1, va_up_ne _ _ (by omega)]
  have hq11 : M2 (mb + 8) = va_cpy (M (mo + 8)) (M (mb + 8)) 0 0 48 := by rw [eM2, va_up_self, hq10, hq9]
  have hq12 : M3 (mb + 8) = va_cpy (M (mo + 8)) (M (mb + 8)) 0 0 48 := by rw [eM3, va_up_ne _ _ (by omega), hq11]
  have hq13 : M4 (mb + 8) = va_cpy (M (mo + 8)) (M (mb + 8)) 0 0 48 := by rw [eM4, va_up_ne _ _ (by omega), hq12]
  have hq14 : M1 (mb + 9) = M (mb + 9) := by rw [eM1, va_up_ne _ _ (by omega)]
  have hq15 : M2 (mb + 9) = M (mb + 9) := by rw [eM2, va_up_ne _ _ (by omega), hq14]
  have hq16 : M1 (mo + 9) = M (mo + 9) := by rw [eM1, va_up_ne _ _ (by omega)]
  have hq17 : M2 (mo + 9) = M (mo + 9) := by rw [eM2, va_up_ne _ _ (by omega), hq16]
  have hq18 : M3 (mb + 9) = va_cpy (M (mo + 9)) (M (mb + 9)) 0 0 48 := by rw [eM3, va_up_self, hq17, hq15]
  have hq19 : M4 (mb + 9) = va_cpy (M (mo + 9)) (M (mb + 9)) 0 0 48 := by rw [eM4, va_up_ne _ _ (by omega), hq18]
  have hq20 : M1 (mb + 10) = M (mb + 10) := by rw [eM1, va_up_ne _ _ (by omega)]
  have hq21 : M2 (mb + 10) = M (mb + 10) := by rw [eM2, va_up_ne _ _ (by omega), hq20]
  have hq22 : M3 (mb + 10) = M (mb + 10) := by rw [eM3, va_up_ne _ _ (by omega), hq21]
  have hq23 : M1 (mo + 10) = M (mo + 10) := by rw [eM1, va_up_ne _ _ (by omega)]
  have hq24 : M2 (mo + 10) = M (mo + 10) := by rw [eM2, va_up_ne _ _ (by omega), hq23]
  have hq25 : M3 (mo + 10) = M (mo + 10) := by rw [eM3, va_up_ne _ _ (by omega), hq24]
  have hq26 : M4 (mb + 10) = va_cpy (M (mo + 10)) (M (mb + 10)) 0 0 6 := by rw [eM4, va_up_self, hq25, hq22]
  exact m_retv S hr hlocks hw dX4_copyFrom_60 ⟨hq8, hq13, hq19, hq26, (by rw [eM4]; exact Fr.up (by rw [eM3]; exact Fr.up (by rw [eM2]; exact Fr.up (by rw [eM1]; exact Fr.up Fr.rf (by omega) (by omega)) (by omega) (by omega)) (by omega) (by omega)) (by omega) (by omega))⟩

set_option maxHeartbeats 4000000 in
set_option maxRecDepth 100000 in
/-- Stock.fill -/
theorem c_X4_fill (l : Launch) (G : GT) (N K : Nat) (ad : Nat → Nat) (M : Mem) (mb : Nat) (hm : IsM N K mb) (t : Nat) (ht : t < 48) (x : Int32) : CmV l G N K ad yX4_fill cX4_fill 3 0 0 [.ref (ad (mb + 6)), .int (nI t), .int x] M (fun M1 => M1 (mb + 7) = (upd (M (mb + 7)) t x) ∧ M1 (mb + 8) = (upd (M (mb + 8)) t (nI 0)) ∧ M1 (mb + 9) = (upd (M (mb + 9)) t (nI 0)) ∧ M1 (mb + 10) = (M (mb + 10)) ∧ Fr (mb + 6) (mb + 11) M M1) := by
  refine cm_startV (by decide +kernel) (Nat.le_of_ble_eq_true rfl) ?_
  intro p e s m below meth c ls S hr hlocks hw hl
  have hl : lv_has ls 3 [(0, .ref (ad (mb + 6))), (1, .int (nI t)), (2, .int x)] := hl
  have hlt_mb := hm.lt
  refine lv_aload_n S.1 S.2.1 dX4_fill_0 rfl (lv_at hl 0 rfl) ?_
  refine m_getR (mb + 6) 0 (mb + 7) S hw (by omega) hm.s6 rfl rfl in_X4 (by decide) wf_X4_9 dX4_fill_1 ?_
  refine lv_iload_n S.1 S.2.1 dX4_fill_4 rfl (lv_at hl 1 rfl) ?_
  refine lv_iload_n S.1 S.2.1 dX4_fill_5 rfl (lv_at hl 2 rfl) ?_
  refine n_ast (mb + 7) t S hw (by omega) hm.s7 (by decide) (by omega) rfl dX4_fill_6 (fun M1 H locs eM1 hw => ?_)
  refine lv_aload_n S.1 S.2.1 dX4_fill_7 rfl (lv_at hl 0 rfl) ?_
  refine m_getR (mb + 6) 1 (mb + 8) S hw (by omega) hm.s6 rfl rfl in_X4 (by decide) wf_X4_15 dX4_fill_8 ?_
  refine lv_iload_n S.1 S.2.1 dX4_fill_11 rfl (lv_at hl 1 rfl) ?_
  refine lv_iconst (v := nI 0) S.1 S.2.1 dX4_fill_12 (by decide) ?_
  refine n_ast (mb + 8) t S hw (by omega) hm.s8 (by decide) (by omega) rfl dX4_fill_13 (fun M2 H locs eM2 hw => ?_)
  refine lv_aload_n S.1 S.2.1 dX4_fill_14 rfl (lv_at hl 0 rfl) ?_
  refine m_getR (mb + 6) 2 (mb + 9) S hw (by omega) hm.s6 rfl rfl in_X4 (by decide) wf_X4_18 dX4_fill_15 ?_
  refine lv_iload_n S.1 S.2.1 dX4_fill_18 rfl (lv_at hl 1 rfl) ?_
  refine lv_iconst (v := nI 0) S.1 S.2.1 dX4_fill_19 (by decide) ?_
  refine n_ast (mb + 9) t S hw (by omega) hm.s9 (by decide) (by omega) rfl dX4_fill_20 (fun M3 H locs eM3 hw => ?_)
  have hq4 : M1 (mb + 7) = upd (M (mb + 7)) t x := by rw [eM1, va_up_self]
  have hq5 : M2 (mb + 7) = upd (M (mb + 7)) t x := by rw [eM2, va_up_ne _ _ (by omega), hq4]
  have hq6 : M3 (mb + 7) = upd (M (mb + 7)) t x := by rw [eM3, va_up_ne _ _ (by omega), hq5]
  have hq7 : M1 (mb + 8) = M (mb + 8) := by rw [eM1, va_up_ne _ _ (by omega)]
  have hq8 : M2 (mb + 8) = upd (M (mb + 8)) t (nI 0) := by rw [eM2, va_up_self, hq7]
  have hq9 : M3 (mb + 8) = upd (M (mb + 8)) t (nI 0) := by rw [eM3, va_up_ne _ _ (by omega), hq8]
  have hq10 : M1 (mb + 9) = M (mb + 9) := by rw [eM1, va_up_ne _ _ (by omega)]
  have hq11 : M2 (mb + 9) = M (mb + 9) := by rw [eM2, va_up_ne _ _ (by omega), hq10]
  have hq12 : M3 (mb + 9) = upd (M (mb + 9)) t (nI 0) := by rw [eM3, va_up_self, hq11]
  have hq13 : M1 (mb + 10) = M (mb + 10) := by rw [eM1, va_up_ne _ _ (by omega)]
  have hq14 : M2 (mb + 10) = M (mb + 10) := by rw [eM2, va_up_ne _ _ (by omega), hq13]
  have hq15 : M3 (mb + 10) = M (mb + 10) := by rw [eM3, va_up_ne _ _ (by omega), hq14]
  exact m_retv S hr hlocks hw dX4_fill_21 ⟨hq6, hq9, hq12, hq15, (by rw [eM3]; exact Fr.up (by rw [eM2]; exact Fr.up (by rw [eM1]; exact Fr.up Fr.rf (by omega) (by omega)) (by omega) (by omega)) (by omega) (by omega))⟩

set_option maxHeartbeats 4000000 in
set_option maxRecDepth 100000 in
/-- Stock.bearsForeign -/
theorem c_X4_bearsForeign (l : Launch) (G : GT) (N K : Nat) (ad : Nat → Nat) (M : Mem) (mb : Nat) (hm : IsM N K mb) (t : Nat) (ht : t < 48) (g : Int32) : CrI l G N K ad yX4_bearsForeign cX4_bearsForeign 3 .boolean 0 0 [.ref (ad (mb + 6)), .int (nI t), .int g] M (b01 (bearB (M (mb + 8)) (M (mb + 7)) g t)) := by
  refine cm_startI (by decide +kernel) (Nat.le_of_ble_eq_true rfl) ?_
  intro p e s m below meth c ls S hr hlocks hw hl
  have hl : lv_has ls 3 [(0, .ref (ad (mb + 6))), (1, .int (nI t)), (2, .int g)] := hl
  have hlt_mb := hm.lt
  refine lv_aload_n S.1 S.2.1 dX4_bearsForeign_0 rfl (lv_at hl 0 rfl) ?_
  refine m_getR (mb + 6) 1 (mb + 8) S hw (by omega) hm.s6 rfl rfl in_X4 (by decide) wf_X4_15 dX4_bearsForeign_1 ?_
  refine lv_iload_n S.1 S.2.1 dX4_bearsForeign_4 rfl (lv_at hl 1 rfl) ?_
  refine m_ald (mb + 8) t S hw (by omega) hm.s8 (by decide) (by omega) rfl dX4_bearsForeign_5 ?_
  refine lv_iconst (v := nI 1) S.1 S.2.1 dX4_bearsForeign_6 (by decide) ?_
  refine lv_iadd S.1 S.2.1 dX4_bearsForeign_7 ?_
  refine lv_bipush (v := nI 100) S.1 S.2.1 dX4_bearsForeign_8 (by decide) ?_
  refine lv_imul S.1 S.2.1 dX4_bearsForeign_10 ?_
  refine lv_iload_n S.1 S.2.1 dX4_bearsForeign_11 rfl (lv_at hl 2 rfl) ?_
  refine lv_aload_n S.1 S.2.1 dX4_bearsForeign_12 rfl (lv_at hl 0 rfl) ?_
  refine m_getR (mb + 6) 0 (mb + 7) S hw (by omega) hm.s6 rfl rfl in_X4 (by decide) wf_X4_9 dX4_bearsForeign_13 ?_
  refine lv_iload_n S.1 S.2.1 dX4_bearsForeign_16 rfl (lv_at hl 1 rfl) ?_
  refine m_ald (mb + 7) t S hw (by omega) hm.s7 (by decide) (by omega) rfl dX4_bearsForeign_17 ?_
  refine lv_iconst (v := nI 1) S.1 S.2.1 dX4_bearsForeign_18 (by decide) ?_
  refine lv_iadd S.1 S.2.1 dX4_bearsForeign_19 ?_
  refine lv_imul S.1 S.2.1 dX4_bearsForeign_20 ?_
  refine lv_icmp_gt (tgt := 28) S.1 S.2.1 dX4_bearsForeign_21 (by decide) (fun c1 => ?_) (fun c1 => ?_)
  · refine lv_iconst (v := nI 0) S.1 S.2.1 dX4_bearsForeign_28 (by decide) ?_
    exact m_retz S hr hlocks hw dX4_bearsForeign_29 rfl ⟨b0_f (by simp only [bearB]; exact decide_eq_false (fun z => Int32.not_lt.mpr z c1)), rfl⟩
  · refine lv_iconst (v := nI 1) S.1 S.2.1 dX4_bearsForeign_24 (by decide) ?_
    refine lv_goto (tgt := 29) S.1 S.2.1 dX4_bearsForeign_25 (by decide) ?_
    exact m_retz S hr hlocks hw dX4_bearsForeign_29 rfl ⟨b1_t (by simp only [bearB]; exact decide_eq_true (Int32.not_lt.mp c1)), rfl⟩

set_option maxHeartbeats 4000000 in
set_option maxRecDepth 100000 in
/-- Stock.putOne -/
theorem c_X4_putOne (l : Launch) (G : GT) (N K : Nat) (ad : Nat → Nat) (M : Mem) (mb : Nat) (hm : IsM N K mb) (t : Nat) (ht : t < 48) (b : Bool) : CmV l G N K ad yX4_putOne cX4_putOne 3 0 0 [.ref (ad (mb + 6)), .int (nI t), .int (b01 b)] M (fun M1 => M1 (mb + 7) = (upd (M (mb + 7)) t (M (mb + 7) t + nI 1)) ∧ M1 (mb + 8) = (if b = true then upd (M (mb + 8)) t (M (mb + 8) t + nI 1) else M (mb + 8)) ∧ M1 (mb + 9) = (upd (M (mb + 9)) t (M (mb + 9) t + nI 1)) ∧ M1 (mb + 10) = (M (mb + 10)) ∧ Fr (mb + 6) (mb + 11) M M1) := by
  refine cm_startV (by decide +kernel) (Nat.le_of_ble_eq_true rfl) ?_
  intro p e s m below meth c ls S hr hlocks hw hl
  have hl : lv_has ls 3 [(0, .ref (ad (mb + 6))), (1, .int (nI t)), (2, .int (b01 b))] := hl
  have hlt_mb := hm.lt
  refine lv_aload_n S.1 S.2.1 dX4_putOne_0 rfl (lv_at hl 0 rfl) ?_
  refine m_getR (mb + 6) 0 (mb + 7) S hw (by omega) hm.s6 rfl rfl in_X4 (by decide) wf_X4_9 dX4_putOne_1 ?_
  refine lv_iload_n S.1 S.2.1 dX4_putOne_4 rfl (lv_at hl 1 rfl) ?_
  refine lv_dup2_11 S.1 S.2.1 dX4_putOne_5 rfl rfl ?_
  refine m_ald (mb + 7) t S hw (by omega) hm.s7 (by decide) (by omega) rfl dX4_putOne_6 ?_
  refine lv_iconst (v := nI 1) S.1 S.2.1 dX4_putOne_7 (by decide) ?_
  refine lv_iadd S.1 S.2.1 dX4_putOne_8 ?_
  refine n_ast (mb + 7) t S hw (by omega) hm.s7 (by decide) (by omega) rfl dX4_putOne_9 (fun M1 H locs eM1 hw => ?_)
  refine lv_aload_n S.1 S.2.1 dX4_putOne_10 rfl (lv_at hl 0 rfl) ?_
  refine m_getR (mb + 6) 2 (mb + 9) S hw (by omega) hm.s6 rfl rfl in_X4 (by decide) wf_X4_18 dX4_putOne_11 ?_
  refine lv_iload_n S.1 S.2.1 dX4_putOne_14 rfl (lv_at hl 1 rfl) ?_
  refine lv_dup2_11 S.1 S.2.1 dX4_putOne_15 rfl rfl ?_
  refine m_ald (mb + 9) t S hw (by omega) hm.s9 (by decide) (by omega) rfl dX4_putOne_16 ?_
  have hq2 : M1 (mb + 9) = M (mb + 9) := by rw [eM1, va_up_ne _ _ (by omega)]
  refine m_top (show M1 (mb + 9) t = M (mb + 9) t from congrFun hq2 t) ?_
  refine lv_iconst (v := nI 1) S.1 S.2.1 dX4_putOne_17 (by decide) ?_
  refine lv_iadd S.1 S.2.1 dX4_putOne_18 ?_
  refine n_ast (mb + 9) t S hw (by omega) hm.s9 (by decide) (by omega) rfl dX4_putOne_19 (fun M3 H locs eM3 hw => ?_)
  refine lv_iload_n S.1 S.2.1 dX4_putOne_20 rfl (lv_at hl 2 rfl) ?_
  refine b_eq (tgt := 34) S dX4_putOne_21 (by decide) (fun c4 => ?_) (fun c4 => ?_)
  · have hq5 : M1 (mb + 8) = M (mb + 8) := by rw [eM1, va_up_ne _ _ (by omega)]
    have hq6 : M3 (mb + 8) = M (mb + 8) := by rw [eM3, va_up_ne _ _ (by omega), hq5]
    have hq7 : M1 (mb + 7) = upd (M (mb + 7)) t ((M (mb + 7) t) + (nI 1)) := by rw [eM1, va_up_self]
    have hq8 : M3 (mb + 7) = upd (M (mb + 7)) t ((M (mb + 7) t) + (nI 1)) := by rw [eM3, va_up_ne _ _ (by omega), hq7]
    have hq9 : M3 (mb + 9) = upd (M (mb + 9)) t ((M (mb + 9) t) + (nI 1)) := by rw [eM3, va_up_self, hq2]
    have hq10 : M1 (mb + 10) = M (mb + 10) := by rw [eM1, va_up_ne _ _ (by omega)]
    have hq11 : M3 (mb + 10) = M (mb + 10) := by rw [eM3, va_up_ne _ _ (by omega), hq10]
    exact m_retv S hr hlocks hw dX4_putOne_34 ⟨hq8, (hq6).trans (by rw [if_neg (by rw [c4]; decide)]), hq9, hq11, (by rw [eM3]; exact Fr.up (by rw [eM1]; exact Fr.up Fr.rf (by omega) (by omega)) (by omega) (by omega))⟩
  · refine lv_aload_n S.1 S.2.1 dX4_putOne_24 rfl (lv_at hl 0 rfl) ?_
    refine m_getR (mb + 6) 1 (mb + 8) S hw (by omega) hm.s6 rfl rfl in_X4 (by decide) wf_X4_15 dX4_putOne_25 ?_
    refine lv_iload_n S.1 S.2.1 dX4_putOne_28 rfl (lv_at hl 1 rfl) ?_
    refine lv_dup2_11 S.1 S.2.1 dX4_putOne_29 rfl rfl ?_
    refine m_ald (mb + 8) t S hw (by omega) hm.s8 (by decide) (by omega) rfl dX4_putOne_30 ?_
    have hq12 : M1 (mb + 8) = M (mb + 8) := by rw [eM1, va_up_ne _ _ (by omega)]
    have hq13 : M3 (mb + 8) = M (mb + 8) := by rw [eM3, va_up_ne _ _ (by omega), hq12]
    refine m_top (show M3 (mb + 8) t = M (mb + 8) t from congrFun hq13 t) ?_
    refine lv_iconst (v := nI 1) S.1 S.2.1 dX4_putOne_31 (by decide) ?_
    refine lv_iadd S.1 S.2.1 dX4_putOne_32 ?_
    refine n_ast (mb + 8) t S hw (by omega) hm.s8 (by decide) (by omega) rfl dX4_putOne_33 (fun M14 H locs eM14 hw => ?_)
    have hq15 : M14 (mb + 8) = upd (M (mb + 8)) t ((M (mb + 8) t) + (nI 1)) := by rw [eM14, va_up_self, hq13]
    have hq16 : M1 (mb + 7) = upd (M (mb + 7)) t ((M (mb + 7) t) + (nI 1)) := by rw [eM1, va_up_self]
    have hq17 : M3 (mb + 7) = upd (M (mb + 7)) t ((M (mb + 7) t) + (nI 1)) := by rw [eM3, va_up_ne _ _ (by omega), hq16]
    have hq18 : M14 (mb + 7) = upd (M (mb + 7)) t ((M (mb + 7) t) + (nI 1)) := by rw [eM14, va_up_ne _ _ (by omega), hq17]
    have hq19 : M3 (mb + 9) = upd (M (mb + 9)) t ((M (mb + 9) t) + (nI 1)) := by rw [eM3, va_up_self, hq2]
    have hq20 : M14 (mb + 9) = upd (M (mb + 9)) t ((M (mb + 9) t) + (nI 1)) := by rw [eM14, va_up_ne _ _ (by omega), hq19]
    have hq21 : M1 (mb + 10) = M (mb + 10) := by rw [eM1, va_up_ne _ _ (by omega)]
    have hq22 : M3 (mb + 10) = M (mb + 10) := by rw [eM3, va_up_ne _ _ (by omega), hq21]
    have hq23 : M14 (mb + 10) = M (mb + 10) := by rw [eM14, va_up_ne _ _ (by omega), hq22]
    exact m_retv S hr hlocks hw dX4_putOne_34 ⟨hq18, by rw [hq15, if_pos c4], hq20, hq23, (by rw [eM14]; exact Fr.up (by rw [eM3]; exact Fr.up (by rw [eM1]; exact Fr.up Fr.rf (by omega) (by omega)) (by omega) (by omega)) (by omega) (by omega))⟩

set_option maxHeartbeats 4000000 in
set_option maxRecDepth 100000 in
/-- Stock.takeOne -/
theorem c_X4_takeOne (l : Launch) (G : GT) (N K : Nat) (ad : Nat → Nat) (M : Mem) (mb : Nat) (hm : IsM N K mb) (t : Nat) (ht : t < 48) : CmV l G N K ad yX4_takeOne cX4_takeOne 2 1 21 [.ref (ad (mb + 6)), .int (nI t)] M (fun M1 => M1 (mb + 7) = (upd (M (mb + 7)) t (M (mb + 7) t - nI 1)) ∧ M1 (mb + 8) = (upd (M (mb + 8)) t (if M (mb + 7) t - nI 1 < M (mb + 8) t then M (mb + 7) t - nI 1 else M (mb + 8) t)) ∧ M1 (mb + 9) = (M (mb + 9)) ∧ M1 (mb + 10) = (M (mb + 10)) ∧ Fr (mb + 6) (mb + 11) M M1) := by
  refine cm_startV (by decide +kernel) (Nat.le_of_ble_eq_true rfl) ?_
  intro p e s m below meth c ls S hr hlocks hw hl
  have hl : lv_has ls 2 [(0, .ref (ad (mb + 6))), (1, .int (nI t))] := hl
  have hlt_mb := hm.lt
  refine lv_aload_n S.1 S.2.1 dX4_takeOne_0 rfl (lv_at hl 0 rfl) ?_
  refine m_getR (mb + 6) 0 (mb + 7) S hw (by omega) hm.s6 rfl rfl in_X4 (by decide) wf_X4_9 dX4_takeOne_1 ?_
  refine lv_iload_n S.1 S.2.1 dX4_takeOne_4 rfl (lv_at hl 1 rfl) ?_
  refine lv_dup2_11 S.1 S.2.1 dX4_takeOne_5 rfl rfl ?_
  refine m_ald (mb + 7) t S hw (by omega) hm.s7 (by decide) (by omega) rfl dX4_takeOne_6 ?_
  refine lv_iconst (v := nI 1) S.1 S.2.1 dX4_takeOne_7 (by decide) ?_
  refine lv_isub S.1 S.2.1 dX4_takeOne_8 ?_
  refine n_ast (mb + 7) t S hw (by omega) hm.s7 (by decide) (by omega) rfl dX4_takeOne_9 (fun M1 H locs eM1 hw => ?_)
  refine lv_aload_n S.1 S.2.1 dX4_takeOne_10 rfl (lv_at hl 0 rfl) ?_
  refine m_getR (mb + 6) 1 (mb + 8) S hw (by omega) hm.s6 rfl rfl in_X4 (by decide) wf_X4_15 dX4_takeOne_11 ?_
  refine lv_iload_n S.1 S.2.1 dX4_takeOne_14 rfl (lv_at hl 1 rfl) ?_
  refine lv_aload_n S.1 S.2.1 dX4_takeOne_15 rfl (lv_at hl 0 rfl) ?_
  refine m_getR (mb + 6) 1 (mb + 8) S hw (by omega) hm.s6 rfl rfl in_X4 (by decide) wf_X4_15 dX4_takeOne_16 ?_
  refine lv_iload_n S.1 S.2.1 dX4_takeOne_19 rfl (lv_at hl 1 rfl) ?_
  refine m_ald (mb + 8) t S hw (by omega) hm.s8 (by decide) (by omega) rfl dX4_takeOne_20 ?_
  have hq2 : M1 (mb + 8) = M (mb + 8) := by rw [eM1, va_up_ne _ _ (by omega)]
  refine m_top (show M1 (mb + 8) t = M (mb + 8) t from congrFun hq2 t) ?_
  refine lv_aload_n S.1 S.2.1 dX4_takeOne_21 rfl (lv_at hl 0 rfl) ?_
  refine m_getR (mb + 6) 0 (mb + 7) S hw (by omega) hm.s6 rfl rfl in_X4 (by decide) wf_X4_9 dX4_takeOne_22 ?_
  refine lv_iload_n S.1 S.2.1 dX4_takeOne_25 rfl (lv_at hl 1 rfl) ?_
  refine m_ald (mb + 7) t S hw (by omega) hm.s7 (by decide) (by omega) rfl dX4_takeOne_26 ?_
  have hq3 : M1 (mb + 7) = upd (M (mb + 7)) t ((M (mb + 7) t) - (nI 1)) := by rw [eM1, va_up_self]
  refine m_top (show M1 (mb + 7) t = (upd (M (mb + 7)) t ((M (mb + 7) t) - (nI 1))) t from congrFun hq3 t) ?_
  refine m_top (show (upd (M (mb + 7)) t ((M (mb + 7) t) - (nI 1))) t = (M (mb + 7) t) - (nI 1) from pk_us) ?_
  refine va_mmin S.1 S.2.1 (S.2.2.1.trans hl.1.symm) S.2.2.2.1 (S.2.2.2.2 _ wm_X4_36) (S.2.2.2.2 _ wt_min) (S.2.2.2.2 _ wn_J9) (S.2.2.2.2 _ wc_min) (by decide) (Nat.le_of_ble_eq_true rfl) (by decide) (by decide) dX4_takeOne_27 ?_
  refine n_ast (mb + 8) t S hw (by omega) hm.s8 (by decide) (by omega) rfl dX4_takeOne_30 (fun M4 H locs eM4 hw => ?_)
  have hq5 : M4 (mb + 7) = upd (M (mb + 7)) t ((M (mb + 7) t) - (nI 1)) := by rw [eM4, va_up_ne _ _ (by omega), hq3]
  have hq6 : M4 (mb + 8) = upd (M (mb + 8)) t (if (M (mb + 7) t) - (nI 1) < M (mb + 8) t then (M (mb + 7) t) - (nI 1) else M (mb + 8) t) := by rw [eM4, va_up_self, hq2]
  have hq7 : M1 (mb + 9) = M (mb + 9) := by rw [eM1, va_up_ne _ _ (by omega)]
  have hq8 : M4 (mb + 9) = M (mb + 9) := by rw [eM4, va_up_ne _ _ (by omega), hq7]
  have hq9 : M1 (mb + 10) = M (mb + 10) := by rw [eM1, va_up_ne _ _ (by omega)]
  have hq10 : M4 (mb + 10) = M (mb + 10) := by rw [eM4, va_up_ne _ _ (by omega), hq9]
  exact m_retv S hr hlocks hw dX4_takeOne_31 ⟨hq5, hq6, hq8, hq10, (by rw [eM4]; exact Fr.up (by rw [eM1]; exact Fr.up Fr.rf (by omega) (by omega)) (by omega) (by omega))⟩

set_option maxHeartbeats 4000000 in
set_option maxRecDepth 100000 in
/-- Stock.slopOfAll -/
theorem c_X4_slopOfAll (l : Launch) (G : GT) (N K : Nat) (ad : Nat → Nat) (M : Mem) (mb : Nat) (hm : IsM N K mb) : CrI l G N K ad yX4_slopOfAll cX4_slopOfAll 3 .int 0 0 [.ref (ad (mb + 6))] M (sumI (M (mb + 10)) 6) := by
  refine cm_startI (by decide +kernel) (Nat.le_of_ble_eq_true rfl) ?_
  intro p e s m below meth c ls S hr hlocks hw hl
  have hl : lv_has ls 3 [(0, .ref (ad (mb + 6)))] := hl
  have hlt_mb := hm.lt
  generalize hAv : List.toArray ([.ref (ad (mb + 6))] : List Value) = A at S ⊢
  have loop : ∀ (n : Nat) (i : Nat), i + n = 6 → ∀ (H : Heap) (locs : List Loc) (ls : Array Slot), Wd G N K ad M s H locs → lv_has ls 3 [(0, .ref (ad (mb + 6))), (1, .int (sumI (M (mb + 10)) i)), (2, .int (nI i))] → W p l e { frames := 0, cells := 0, slots := 0, locals := 0 } s m A below meth c H locs 0 0 (QmI G N K ad (fun r M' => r = (sumI (M (mb + 10)) 6) ∧ M' = M) below A s) (F0 m 4 ls []) := by
    intro n
    induction n with
    | zero =>
      intro i hi H locs ls hw hl
      refine lv_iload_n S.1 S.2.1 dX4_slopOfAll_4 rfl (lv_at hl 2 rfl) ?_
      refine lv_bipush (v := nI 6) S.1 S.2.1 dX4_slopOfAll_5 (by decide) ?_
      refine n_ge (tgt := 25) S (by omega) (by omega) dX4_slopOfAll_7 (by decide) (fun c1 => ?_) (fun c1 => absurd c1 (by omega))
      refine lv_iload_n S.1 S.2.1 dX4_slopOfAll_25 rfl (lv_at hl 1 rfl) ?_
      exact m_reti S hr hlocks hw dX4_slopOfAll_26 ⟨by rw [show i = 6 by omega], rfl⟩
    | succ n ih =>
      intro i hi H locs ls hw hl
      refine lv_iload_n S.1 S.2.1 dX4_slopOfAll_4 rfl (lv_at hl 2 rfl) ?_
      refine lv_bipush (v := nI 6) S.1 S.2.1 dX4_slopOfAll_5 (by decide) ?_
      refine n_ge (tgt := 25) S (by omega) (by omega) dX4_slopOfAll_7 (by decide) (fun c1 => absurd c1 (by omega)) (fun c1 => ?_)
      refine lv_iload_n S.1 S.2.1 dX4_slopOfAll_10 rfl (lv_at hl 1 rfl) ?_
      refine lv_aload_n S.1 S.2.1 dX4_slopOfAll_11 rfl (lv_at hl 0 rfl) ?_
      refine m_getR (mb + 6) 3 (mb + 10) S hw (by omega) hm.s6 rfl rfl in_X4 (by decide) wf_X4_21 dX4_slopOfAll_12 ?_
      refine lv_iload_n S.1 S.2.1 dX4_slopOfAll_15 rfl (lv_at hl 2 rfl) ?_
      refine m_ald (mb + 10) i S hw (by omega) hm.s10 (by decide) (by omega) rfl dX4_slopOfAll_16 ?_
      refine lv_iadd S.1 S.2.1 dX4_slopOfAll_17 ?_
      refine lv_istore_n (lv' := [(1, .int ((sumI (M (mb + 10)) i) + (M (mb + 10) i))), (0, .ref (ad (mb + 6))), (2, .int (nI i))]) S.1 S.2.1 dX4_slopOfAll_18 rfl hl (by decide) rfl (fun ls hl => ?_)
      refine lv_iinc (v := nI (i + 1)) (lv' := [(2, .int (nI (i + 1))), (1, .int ((sumI (M (mb + 10)) i) + (M (mb + 10) i))), (0, .ref (ad (mb + 6)))]) S.1 S.2.1 dX4_slopOfAll_19 hl (k := 2) rfl (iinc1 _) (by decide) rfl (fun ls hl => ?_)
      refine lv_goto (tgt := 4) S.1 S.2.1 dX4_slopOfAll_22 (by decide) ?_
      exact ih (i + 1) (by omega) _ _ ls hw (lv_sub hl [2, 1, 0] rfl)
  refine lv_iconst (v := nI 0) S.1 S.2.1 dX4_slopOfAll_0 (by decide) ?_
  refine lv_istore_n (lv' := [(1, .int (nI 0)), (0, .ref (ad (mb + 6)))]) S.1 S.2.1 dX4_slopOfAll_1 rfl hl (by decide) rfl (fun ls hl => ?_)
  refine lv_iconst (v := nI 0) S.1 S.2.1 dX4_slopOfAll_2 (by decide) ?_
  refine lv_istore_n (lv' := [(2, .int (nI 0)), (1, .int (nI 0)), (0, .ref (ad (mb + 6)))]) S.1 S.2.1 dX4_slopOfAll_3 rfl hl (by decide) rfl (fun ls hl => ?_)
  exact loop 6 0 (by omega) _ _ ls hw (lv_sub hl [2, 1, 0] rfl)

set_option maxHeartbeats 4000000 in
set_option maxRecDepth 100000 in
/-- Plan.set -/
theorem c_X3_set (l : Launch) (G : GT) (N K : Nat) (ad : Nat → Nat) (M : Mem) (h34 : 34 ≤ N) (a b kd : Nat) (ha : a < 6) (hb : b < 6) : CmV l G N K ad yX3_set cX3_set 5 1 21 [.ref (ad 17), .int (nI a), .int (nI b), .int (nI kd), .ref (ad 6)] M (fun M1 => M1 17 0 = nI kd ∧ M1 17 1 = nI (a * 8 + kd) ∧ M1 17 2 = nI b ∧ M1 17 3 = M 7 a ∧ M1 17 4 = M 7 b ∧ Fr 17 18 M M1) := by
  refine cm_startV (by decide +kernel) (Nat.le_of_ble_eq_true rfl) ?_
  intro p e s m below meth c ls S hr hlocks hw hl
  have hl : lv_has ls 5 [(0, .ref (ad 17)), (1, .int (nI a)), (2, .int (nI b)), (3, .int (nI kd)), (4, .ref (ad 6))] := hl
  refine lv_aload_n S.1 S.2.1 dX3_set_0 rfl (lv_at hl 0 rfl) ?_
  refine lv_iload_n S.1 S.2.1 dX3_set_1 rfl (lv_at hl 3 rfl) ?_
  refine n_putI 17 0 S hw (by omega) rfl rfl rfl in_X3 tyX3_ok nmX3 (by decide) rfl rfl wf_X3_7 dX3_set_2 (fun M1 H locs eM1 hw => ?_)
  refine lv_aload_n S.1 S.2.1 dX3_set_5 rfl (lv_at hl 0 rfl) ?_
  refine lv_iload_n S.1 S.2.1 dX3_set_6 rfl (lv_at hl 1 rfl) ?_
  refine lv_iload_n S.1 S.2.1 dX3_set_7 rfl (lv_at hl 3 rfl) ?_
  refine r_NI (As := [.int (nI a), .int (nI kd)]) (rest := [.ref (ad 17)]) S hw (c_X7_tankNumber l G N K ad M1 a kd) mf_X7_tankNumber (List.mem_of_getElem? (i := 7) rfl) ⟨by decide, by decide⟩ ⟨Nat.le_refl _, Nat.le_refl _⟩ hl.1 rfl (Nat.le_of_ble_eq_true rfl) dX3_set_8 (fun H locs hw => ?_)
  refine n_putI 17 1 S hw (by omega) rfl rfl rfl in_X3 tyX3_ok nmX3 (by decide) rfl rfl wf_X3_13 dX3_set_11 (fun M2 H locs eM2 hw => ?_)
  refine lv_aload_n S.1 S.2.1 dX3_set_14 rfl (lv_at hl 0 rfl) ?_
  refine lv_iload_n S.1 S.2.1 dX3_set_15 rfl (lv_at hl 2 rfl) ?_
  refine n_putI 17 2 S hw (by omega) rfl rfl rfl in_X3 tyX3_ok nmX3 (by decide) rfl rfl wf_X3_16 dX3_set_16 (fun M3 H locs eM3 hw => ?_)
  refine lv_aload_n S.1 S.2.1 dX3_set_19 rfl (lv_at hl 0 rfl) ?_
  refine lv_aload S.1 S.2.1 dX3_set_20 (lv_at hl 4 rfl) ?_
  refine m_getR 6 1 7 S hw (by omega) rfl rfl rfl in_X0 (by decide) wf_X3_31 dX3_set_22 ?_
  refine lv_iload_n S.1 S.2.1 dX3_set_25 rfl (lv_at hl 1 rfl) ?_
  refine m_ald 7 a S hw (by omega) rfl (by decide) (by omega) rfl dX3_set_26 ?_
  have hq4 : M1 7 = M 7 := by rw [eM1, va_up_ne _ _ (by omega)]
  have hq5 : M2 7 = M 7 := by rw [eM2, va_up_ne _ _ (by omega), hq4]
  have hq6 : M3 7 = M 7 := by rw [eM3, va_up_ne _ _ (by omega), hq5]
  refine m_top (show M3 7 a = M 7 a from congrFun hq6 a) ?_
  refine n_putI 17 3 S hw (by omega) rfl rfl rfl in_X3 tyX3_ok nmX3 (by decide) rfl rfl wf_X3_19 dX3_set_27 (fun M7 H locs eM7 hw => ?_)
  refine lv_aload_n S.1 S.2.1 dX3_set_30 rfl (lv_at hl 0 rfl) ?_
  refine lv_aload S.1 S.2.1 dX3_set_31 (lv_at hl 4 rfl) ?_
  refine m_getR 6 1 7 S hw (by omega) rfl rfl rfl in_X0 (by decide) wf_X3_31 dX3_set_33 ?_
  refine lv_iload_n S.1 S.2.1 dX3_set_36 rfl (lv_at hl 2 rfl) ?_
  refine m_ald 7 b S hw (by omega) rfl (by decide) (by omega) rfl dX3_set_37 ?_
  have hq8 : M7 7 = M 7 := by rw [eM7, va_up_ne _ _ (by omega), hq6]
  refine m_top (show M7 7 b = M 7 b from congrFun hq8 b) ?_
  refine n_putI 17 4 S hw (by omega) rfl rfl rfl in_X3 tyX3_ok nmX3 (by decide) rfl rfl wf_X3_22 dX3_set_38 (fun M9 H locs eM9 hw => ?_)
  have hq10 : M1 17 = upd (M 17) 0 (nI kd) := by rw [eM1, va_up_self]
  have hq11 : M2 17 = upd (upd (M 17) 0 (nI kd)) 1 (nI (a * 8 + kd)) := by rw [eM2, va_up_self, hq10]
  have hq12 : M3 17 = upd (upd (upd (M 17) 0 (nI kd)) 1 (nI (a * 8 + kd))) 2 (nI b) := by rw [eM3, va_up_self, hq11]
  have hq13 : M7 17 = upd (upd (upd (upd (M 17) 0 (nI kd)) 1 (nI (a * 8 + kd))) 2 (nI b)) 3 (M 7 a) := by rw [eM7, va_up_self, hq12]
  have hq14 : M9 17 = upd (upd (upd (upd (upd (M 17) 0 (nI kd)) 1 (nI (a * 8 + kd))) 2 (nI b)) 3 (M 7 a)) 4 (M 7 b) := by rw [eM9, va_up_self, hq13]
  exact m_retv S hr hlocks hw dX3_set_41 ⟨(Eq.trans (congrFun hq14 0) ((pk_un (by decide)).trans ((pk_un (by decide)).trans ((pk_un (by decide)).trans ((pk_un (by decide)).trans pk_us))))), (Eq.trans (congrFun hq14 1) ((pk_un (by decide)).trans ((pk_un (by decide)).trans ((pk_un (by decide)).trans pk_us)))), (Eq.trans (congrFun hq14 2) ((pk_un (by decide)).trans ((pk_un (by decide)).trans pk_us))), (Eq.trans (congrFun hq14 3) ((pk_un (by decide)).trans pk_us)), (Eq.trans (congrFun hq14 4) pk_us), (by rw [eM9]; exact Fr.up (by rw [eM7]; exact Fr.up (by rw [eM3]; exact Fr.up (by rw [eM2]; exact Fr.up (by rw [eM1]; exact Fr.up Fr.rf (by omega) (by omega)) (by omega) (by omega)) (by omega) (by omega)) (by omega) (by omega)) (by omega) (by omega))⟩
end
section
set_option maxHeartbeats 4000000 in
set_option maxRecDepth 100000 in
/-- Pipe.isPure -/
theorem c_X2_isPure (l : Launch) (G : GT) (N K : Nat) (ad : Nat → Nat) (M : Mem) (mb : Nat) (hm : IsM N K mb) (j : Nat) (hj : j < 120) : CrI l G N K ad yX2_isPure cX2_isPure 2 .boolean 0 0 [.ref (ad (mb + 1)), .int (nI j)] M (b01 (pureB (M (mb + 4)) j)) := by
  refine cm_startI (by decide +kernel) (Nat.le_of_ble_eq_true rfl) ?_
  intro p e s m below meth c ls S hr hlocks hw hl
  have hl : lv_has ls 2 [(0, .ref (ad (mb + 1))), (1, .int (nI j))] := hl
  have hlt_mb := hm.lt
  refine lv_aload_n S.1 S.2.1 dX2_isPure_0 rfl (lv_at hl 0 rfl) ?_
  refine m_getR (mb + 1) 3 (mb + 4) S hw (by omega) hm.s1 rfl rfl in_X2 (by decide) wf_X2_22 dX2_isPure_1 ?_
  refine lv_iload_n S.1 S.2.1 dX2_isPure_4 rfl (lv_at hl 1 rfl) ?_
  refine m_ald (mb + 4) j S hw (by omega) hm.s4 (by decide) (by omega) rfl dX2_isPure_5 ?_
  refine lv_iconst (v := (-1)) S.1 S.2.1 dX2_isPure_6 (by decide) ?_
  refine lv_icmp_ne (tgt := 14) S.1 S.2.1 dX2_isPure_7 (by decide) (fun c1 => ?_) (fun c1 => ?_)
  · refine lv_iconst (v := nI 0) S.1 S.2.1 dX2_isPure_14 (by decide) ?_
    exact m_retz S hr hlocks hw dX2_isPure_15 rfl ⟨b0_f (eqB_f c1), rfl⟩
  · refine lv_iconst (v := nI 1) S.1 S.2.1 dX2_isPure_10 (by decide) ?_
    refine lv_goto (tgt := 15) S.1 S.2.1 dX2_isPure_11 (by decide) ?_
    exact m_retz S hr hlocks hw dX2_isPure_15 rfl ⟨b1_t (eqB_t c1), rfl⟩

set_option maxHeartbeats 4000000 in
set_option maxRecDepth 100000 in
/-- Pipe.neighbourToBegin -/
theorem c_X2_neighbourToBegin (l : Launch) (G : GT) (N K : Nat) (ad : Nat → Nat) (M : Mem) (mb : Nat) (hm : IsM N K mb) (j : Nat) (hj : j ≤ 120) : CrI l G N K ad yX2_neighbourToBegin cX2_neighbourToBegin 3 .int 1 21 [.ref (ad (mb + 1)), .int (nI j)] M (enc (nbB (M (mb + 4)) j)) := by
  refine cm_startI (by decide +kernel) (Nat.le_of_ble_eq_true rfl) ?_
  intro p e s m below meth c ls S hr hlocks hw hl
  have hl : lv_has ls 3 [(0, .ref (ad (mb + 1))), (1, .int (nI j))] := hl
  have hlt_mb := hm.lt
  generalize hAv : List.toArray ([.ref (ad (mb + 1)), .int (nI j)] : List Value) = A at S ⊢
  have loop : ∀ (n' : Nat), n' ≤ 120 → nbB (M (mb + 4)) j = nbB (M (mb + 4)) n' → ∀ (H : Heap) (locs : List Loc) (ls : Array Slot), Wd G N K ad M s H locs → lv_has ls 3 [(0, .ref (ad (mb + 1))), (1, .int (nI j)), (2, .int (nI n' - nI 1))] → W p l e { frames := 1, cells := 0, slots := 0, locals := 21 } s m A below meth c H locs 0 0 (QmI G N K ad (fun r M' => r = (enc (nbB (M (mb + 4)) j)) ∧ M' = M) below A s) (F0 m 4 ls []) := by
    intro n'
    induction n' with
    | zero =>
      intro hc he H locs ls hw hl
      refine lv_iload_n S.1 S.2.1 dX2_neighbourToBegin_4 rfl (lv_at hl 2 rfl) ?_
      refine lv_if_lt (tgt := 24) S.1 S.2.1 dX2_neighbourToBegin_5 (by decide) (fun c1 => ?_) (fun c1 => absurd c1 (fun z => z nI_m1))
      refine lv_iconst (v := (-1)) S.1 S.2.1 dX2_neighbourToBegin_24 (by decide) ?_
      exact m_reti S hr hlocks hw dX2_neighbourToBegin_25 ⟨by rw [he]; rfl, rfl⟩
    | succ c' ih =>
      intro hc he H locs ls hw hl
      have hl : lv_has ls 3 [(0, .ref (ad (mb + 1))), (1, .int (nI j)), (2, .int (nI (c')))] := by rw [predN] at hl; exact hl
      refine lv_iload_n S.1 S.2.1 dX2_neighbourToBegin_4 rfl (lv_at hl 2 rfl) ?_
      refine lv_if_lt (tgt := 24) S.1 S.2.1 dX2_neighbourToBegin_5 (by decide) (fun c1 => absurd c1 (nI_pos (by omega))) (fun c1 => ?_)
      refine lv_aload_n S.1 S.2.1 dX2_neighbourToBegin_8 rfl (lv_at hl 0 rfl) ?_
      refine lv_iload_n S.1 S.2.1 dX2_neighbourToBegin_9 rfl (lv_at hl 2 rfl) ?_
      refine r_VI (As := [.int (nI (c'))]) (rest := []) (mb + 1) S hw (by omega) hm.s1 rfl (c_X2_isPure l G N K ad M mb hm (c') (by omega)) mf_X2_isPure wm_X2_38 ⟨by decide, by decide⟩ ⟨Nat.le_refl _, Nat.le_refl _⟩ hl.1 rfl (Nat.le_of_ble_eq_true rfl) dX2_neighbourToBegin_10 (fun H locs hw => ?_)
      refine b_eq (tgt := 18) S dX2_neighbourToBegin_13 (by decide) (fun c2 => ?_) (fun c2 => ?_)
      · refine lv_iinc (v := nI c' - nI 1) (lv' := [(2, .int (nI c' - nI 1)), (0, .ref (ad (mb + 1))), (1, .int (nI j))]) S.1 S.2.1 dX2_neighbourToBegin_18 hl (k := 2) rfl (iincM1 _) (by decide) rfl (fun ls hl => ?_)
        refine lv_goto (tgt := 4) S.1 S.2.1 dX2_neighbourToBegin_21 (by decide) ?_
        exact ih (by omega) (he.trans (nbB_f c2)) _ _ ls hw (lv_sub hl [1, 2, 0] rfl)
      · refine lv_iload_n S.1 S.2.1 dX2_neighbourToBegin_16 rfl (lv_at hl 2 rfl) ?_
        exact m_reti S hr hlocks hw dX2_neighbourToBegin_17 ⟨by rw [he, nbB_t c2]; rfl, rfl⟩
  refine lv_iload_n S.1 S.2.1 dX2_neighbourToBegin_0 rfl (lv_at hl 1 rfl) ?_
  refine lv_iconst (v := nI 1) S.1 S.2.1 dX2_neighbourToBegin_1 (by decide) ?_
  refine lv_isub S.1 S.2.1 dX2_neighbourToBegin_2 ?_
  refine lv_istore_n (lv' := [(2, .int ((nI j) - (nI 1))), (0, .ref (ad (mb + 1))), (1, .int (nI j))]) S.1 S.2.1 dX2_neighbourToBegin_3 rfl hl (by decide) rfl (fun ls hl => ?_)
  exact loop j hj rfl _ _ ls hw (lv_sub hl [1, 2, 0] rfl)

set_option maxHeartbeats 4000000 in
set_option maxRecDepth 100000 in
/-- Pipe.neighbourToEnd -/
theorem c_X2_neighbourToEnd (l : Launch) (G : GT) (N K : Nat) (ad : Nat → Nat) (M : Mem) (mb : Nat) (hm : IsM N K mb) (n : Nat) (hn : M (mb + 1) 0 = nI n) (hn1 : n ≤ 120) (j : Nat) (hj : j < n) : CrI l G N K ad yX2_neighbourToEnd cX2_neighbourToEnd 3 .int 1 21 [.ref (ad (mb + 1)), .int (nI j)] M (enc (nbE (M (mb + 4)) n j)) := by
  refine cm_startI (by decide +kernel) (Nat.le_of_ble_eq_true rfl) ?_
  intro p e s m below meth c ls S hr hlocks hw hl
  have hl : lv_has ls 3 [(0, .ref (ad (mb + 1))), (1, .int (nI j))] := hl
  have hlt_mb := hm.lt
  generalize hAv : List.toArray ([.ref (ad (mb + 1)), .int (nI j)] : List Value) = A at S ⊢
  have loop : ∀ (n' : Nat) (i : Nat), i + n' = n → nbE (M (mb + 4)) n j = nbEc (M (mb + 4)) n' i → ∀ (H : Heap) (locs : List Loc) (ls : Array Slot), Wd G N K ad M s H locs → lv_has ls 3 [(0, .ref (ad (mb + 1))), (1, .int (nI j)), (2, .int (nI i))] → W p l e { frames := 1, cells := 0, slots := 0, locals := 21 } s m A below meth c H locs 0 0 (QmI G N K ad (fun r M' => r = (enc (nbE (M (mb + 4)) n j)) ∧ M' = M) below A s) (F0 m 4 ls []) := by
    intro n'
    induction n' with
    | zero =>
      intro i hi he H locs ls hw hl
      refine lv_iload_n S.1 S.2.1 dX2_neighbourToEnd_4 rfl (lv_at hl 2 rfl) ?_
      refine lv_aload_n S.1 S.2.1 dX2_neighbourToEnd_5 rfl (lv_at hl 0 rfl) ?_
      refine m_getI (mb + 1) 0 S hw (by omega) hm.s1 rfl rfl in_X2 (by decide) wf_X2_9 dX2_neighbourToEnd_6 ?_
      refine m_top (show M (mb + 1) 0 = nI n from hn) ?_
      refine n_ge (tgt := 28) S (by omega) (by omega) dX2_neighbourToEnd_9 (by decide) (fun c1 => ?_) (fun c1 => absurd c1 (by omega))
      refine lv_iconst (v := (-1)) S.1 S.2.1 dX2_neighbourToEnd_28 (by decide) ?_
      exact m_reti S hr hlocks hw dX2_neighbourToEnd_29 ⟨by rw [he]; rfl, rfl⟩
    | succ n' ih =>
      intro i hi he H locs ls hw hl
      refine lv_iload_n S.1 S.2.1 dX2_neighbourToEnd_4 rfl (lv_at hl 2 rfl) ?_
      refine lv_aload_n S.1 S.2.1 dX2_neighbourToEnd_5 rfl (lv_at hl 0 rfl) ?_
      refine m_getI (mb + 1) 0 S hw (by omega) hm.s1 rfl rfl in_X2 (by decide) wf_X2_9 dX2_neighbourToEnd_6 ?_
      refine m_top (show M (mb + 1) 0 = nI n from hn) ?_
      refine n_ge (tgt := 28) S (by omega) (by omega) dX2_neighbourToEnd_9 (by decide) (fun c1 => absurd c1 (by omega)) (fun c1 => ?_)
      refine lv_aload_n S.1 S.2.1 dX2_neighbourToEnd_12 rfl (lv_at hl 0 rfl) ?_
      refine lv_iload_n S.1 S.2.1 dX2_neighbourToEnd_13 rfl (lv_at hl 2 rfl) ?_
      refine r_VI (As := [.int (nI i)]) (rest := []) (mb + 1) S hw (by omega) hm.s1 rfl (c_X2_isPure l G N K ad M mb hm i (by omega)) mf_X2_isPure wm_X2_38 ⟨by decide, by decide⟩ ⟨Nat.le_refl _, Nat.le_refl _⟩ hl.1 rfl (Nat.le_of_ble_eq_true rfl) dX2_neighbourToEnd_14 (fun H locs hw => ?_)
      refine b_eq (tgt := 22) S dX2_neighbourToEnd_17 (by decide) (fun c2 => ?_) (fun c2 => ?_)
      · refine lv_iinc (v := nI (i + 1)) (lv' := [(2, .int (nI (i + 1))), (0, .ref (ad (mb + 1))), (1, .int (nI j))]) S.1 S.2.1 dX2_neighbourToEnd_22 hl (k := 2) rfl (iinc1 _) (by decide) rfl (fun ls hl => ?_)
        refine lv_goto (tgt := 4) S.1 S.2.1 dX2_neighbourToEnd_25 (by decide) ?_
        exact ih (i + 1) (by omega) (he.trans (nbEc_f c2)) _ _ ls hw (lv_sub hl [1, 2, 0] rfl)
      · refine lv_iload_n S.1 S.2.1 dX2_neighbourToEnd_20 rfl (lv_at hl 2 rfl) ?_
        exact m_reti S hr hlocks hw dX2_neighbourToEnd_21 ⟨by rw [he, nbEc_t c2]; rfl, rfl⟩
  refine lv_iload_n S.1 S.2.1 dX2_neighbourToEnd_0 rfl (lv_at hl 1 rfl) ?_
  refine lv_iconst (v := nI 1) S.1 S.2.1 dX2_neighbourToEnd_1 (by decide) ?_
  refine lv_iadd S.1 S.2.1 dX2_neighbourToEnd_2 ?_
  refine m_top (show (nI j) + (nI 1) = nI (j + 1) from nI_add _ _) ?_
  refine lv_istore_n (lv' := [(2, .int (nI (j + 1))), (0, .ref (ad (mb + 1))), (1, .int (nI j))]) S.1 S.2.1 dX2_neighbourToEnd_3 rfl hl (by decide) rfl (fun ls hl => ?_)
  exact loop (n - (j + 1)) (j + 1) (by omega) rfl _ _ ls hw (lv_sub hl [1, 2, 0] rfl)

set_option maxHeartbeats 4000000 in
set_option maxRecDepth 100000 in
/-- Pipe.isBorder -/
theorem c_X2_isBorder (l : Launch) (G : GT) (N K : Nat) (ad : Nat → Nat) (M : Mem) (mb : Nat) (hm : IsM N K mb) (j : Nat) (hj : j < 120) : CrI l G N K ad yX2_isBorder cX2_isBorder 3 .boolean 2 43 [.ref (ad (mb + 1)), .int (nI j)] M (b01 (bord (M (mb + 4)) (M (mb + 3)) j).isSome) := by
  refine cm_startI (by decide +kernel) (Nat.le_of_ble_eq_true rfl) ?_
  intro p e s m below meth c ls S hr hlocks hw hl
  have hl : lv_has ls 3 [(0, .ref (ad (mb + 1))), (1, .int (nI j))] := hl
  have hlt_mb := hm.lt
  refine lv_aload_n S.1 S.2.1 dX2_isBorder_0 rfl (lv_at hl 0 rfl) ?_
  refine lv_iload_n S.1 S.2.1 dX2_isBorder_1 rfl (lv_at hl 1 rfl) ?_
  refine r_VI (As := [.int (nI j)]) (rest := []) (mb + 1) S hw (by omega) hm.s1 rfl (c_X2_isPure l G N K ad M mb hm j (by omega)) mf_X2_isPure wm_X2_38 ⟨by decide, by decide⟩ ⟨Nat.le_refl _, Nat.le_refl _⟩ hl.1 rfl (Nat.le_of_ble_eq_true rfl) dX2_isBorder_2 (fun H locs hw => ?_)
  refine b_ne (tgt := 10) S dX2_isBorder_5 (by decide) (fun c1 => ?_) (fun c1 => ?_)
  · refine lv_aload_n S.1 S.2.1 dX2_isBorder_10 rfl (lv_at hl 0 rfl) ?_
    refine lv_iload_n S.1 S.2.1 dX2_isBorder_11 rfl (lv_at hl 1 rfl) ?_
    refine r_VI (As := [.int (nI j)]) (rest := []) (mb + 1) S hw (by omega) hm.s1 rfl (c_X2_neighbourToBegin l G N K ad M mb hm j (by omega)) mf_X2_neighbourToBegin wm_X2_42 ⟨by decide, by decide⟩ ⟨Nat.le_refl _, Nat.le_refl _⟩ hl.1 rfl (Nat.le_of_ble_eq_true rfl) dX2_isBorder_12 (fun H locs hw => ?_)
    rcases opt_cases (nbB (M (mb + 4)) j) with hnb | ⟨x, hnb⟩
    · refine m_top (show enc (nbB (M (mb + 4)) j) = (-1) from enc_n hnb) ?_
      refine lv_istore_n (lv' := [(2, .int (-1)), (0, .ref (ad (mb + 1))), (1, .int (nI j))]) S.1 S.2.1 dX2_isBorder_15 rfl hl (by decide) rfl (fun ls hl => ?_)
      refine lv_iload_n S.1 S.2.1 dX2_isBorder_16 rfl (lv_at hl 0 rfl) ?_
      refine lv_iconst (v := (-1)) S.1 S.2.1 dX2_isBorder_17 (by decide) ?_
      refine lv_icmp_eq (tgt := 40) S.1 S.2.1 dX2_isBorder_18 (by decide) (fun c2 => ?_) (fun c2 => absurd c2 (fun z => z rfl))
      refine lv_iconst (v := nI 0) S.1 S.2.1 dX2_isBorder_40 (by decide) ?_
      exact m_retz S hr hlocks hw dX2_isBorder_41 rfl ⟨b0_f (isS_f (bord_n2 hnb)), rfl⟩
    · have hx := nbB_lt hnb
      refine m_top (show enc (nbB (M (mb + 4)) j) = nI x from enc_s hnb) ?_
      refine lv_istore_n (lv' := [(2, .int (nI x)), (0, .ref (ad (mb + 1))), (1, .int (nI j))]) S.1 S.2.1 dX2_isBorder_15 rfl hl (by decide) rfl (fun ls hl => ?_)
      refine lv_iload_n S.1 S.2.1 dX2_isBorder_16 rfl (lv_at hl 0 rfl) ?_
      refine lv_iconst (v := (-1)) S.1 S.2.1 dX2_isBorder_17 (by decide) ?_
      refine lv_icmp_eq (tgt := 40) S.1 S.2.1 dX2_isBorder_18 (by decide) (fun c3 => absurd c3 (enc_ne (by omega))) (fun c3 => ?_)
      refine lv_aload_n S.1 S.2.1 dX2_isBorder_21 rfl (lv_at hl 1 rfl) ?_
      refine m_getR (mb + 1) 2 (mb + 3) S hw (by omega) hm.s1 rfl rfl in_X2 (by decide) wf_X2_19 dX2_isBorder_22 ?_
      refine lv_iload_n S.1 S.2.1 dX2_isBorder_25 rfl (lv_at hl 0 rfl) ?_
      refine m_ald (mb + 3) x S hw (by omega) hm.s3 (by decide) (by omega) rfl dX2_isBorder_26 ?_
      refine lv_aload_n S.1 S.2.1 dX2_isBorder_27 rfl (lv_at hl 1 rfl) ?_
      refine m_getR (mb + 1) 2 (mb + 3) S hw (by omega) hm.s1 rfl rfl in_X2 (by decide) wf_X2_19 dX2_isBorder_28 ?_
      refine lv_iload_n S.1 S.2.1 dX2_isBorder_31 rfl (lv_at hl 2 rfl) ?_
      refine m_ald (mb + 3) j S hw (by omega) hm.s3 (by decide) (by omega) rfl dX2_isBorder_32 ?_
      refine lv_icmp_eq (tgt := 40) S.1 S.2.1 dX2_isBorder_33 (by decide) (fun c4 => ?_) (fun c4 => ?_)
      · refine lv_iconst (v := nI 0) S.1 S.2.1 dX2_isBorder_40 (by decide) ?_
        exact m_retz S hr hlocks hw dX2_isBorder_41 rfl ⟨b0_f (isS_f (bord_n3 hnb c4)), rfl⟩
      · refine lv_iconst (v := nI 1) S.1 S.2.1 dX2_isBorder_36 (by decide) ?_
        refine lv_goto (tgt := 41) S.1 S.2.1 dX2_isBorder_37 (by decide) ?_
        exact m_retz S hr hlocks hw dX2_isBorder_41 rfl ⟨b1_t (isS_t (bord_s c1 hnb c4)), rfl⟩
  · refine lv_iconst (v := nI 0) S.1 S.2.1 dX2_isBorder_8 (by decide) ?_
    exact m_retz S hr hlocks hw dX2_isBorder_9 rfl ⟨b0_f (isS_f (bord_n1 c1)), rfl⟩

set_option maxHeartbeats 4000000 in
set_option maxRecDepth 100000 in
/-- Pipe.countBorders -/
theorem c_X2_countBorders (l : Launch) (G : GT) (N K : Nat) (ad : Nat → Nat) (M : Mem) (mb : Nat) (hm : IsM N K mb) (n : Nat) (hn : M (mb + 1) 0 = nI n) (hn1 : n ≤ 120) : CrI l G N K ad yX2_countBorders cX2_countBorders 3 .int 3 65 [.ref (ad (mb + 1))] M (nI (cntB (fun j => (bord (M (mb + 4)) (M (mb + 3)) j).isSome) n)) := by
  refine cm_startI (by decide +kernel) (Nat.le_of_ble_eq_true rfl) ?_
  intro p e s m below meth c ls S hr hlocks hw hl
  have hl : lv_has ls 3 [(0, .ref (ad (mb + 1)))] := hl
  have hlt_mb := hm.lt
  generalize hAv : List.toArray ([.ref (ad (mb + 1))] : List Value) = A at S ⊢
  have loop : ∀ (n' : Nat) (i : Nat), i + n' = n → ∀ (H : Heap) (locs : List Loc) (ls : Array Slot), Wd G N K ad M s H locs → lv_has ls 3 [(0, .ref (ad (mb + 1))), (1, .int (nI (cntB (fun j => (bord (M (mb + 4)) (M (mb + 3)) j).isSome) i))), (2, .int (nI i))] → W p l e { frames := 3, cells := 0, slots := 0, locals := 65 } s m A below meth c H locs 0 0 (QmI G N K ad (fun r M' => r = (nI (cntB (fun j => (bord (M (mb + 4)) (M (mb + 3)) j).isSome) n)) ∧ M' = M) below A s) (F0 m 4 ls []) := by
    intro n'
    induction n' with
    | zero =>
      intro i hi H locs ls hw hl
      refine lv_iload_n S.1 S.2.1 dX2_countBorders_4 rfl (lv_at hl 2 rfl) ?_
      refine lv_aload_n S.1 S.2.1 dX2_countBorders_5 rfl (lv_at hl 0 rfl) ?_
      refine m_getI (mb + 1) 0 S hw (by omega) hm.s1 rfl rfl in_X2 (by decide) wf_X2_9 dX2_countBorders_6 ?_
      refine m_top (show M (mb + 1) 0 = nI n from hn) ?_
      refine n_ge (tgt := 29) S (by omega) (by omega) dX2_countBorders_9 (by decide) (fun c1 => ?_) (fun c1 => absurd c1 (by omega))
      refine lv_iload_n S.1 S.2.1 dX2_countBorders_29 rfl (lv_at hl 1 rfl) ?_
      exact m_reti S hr hlocks hw dX2_countBorders_30 ⟨by rw [show i = n by omega], rfl⟩
    | succ n' ih =>
      intro i hi H locs ls hw hl
      refine lv_iload_n S.1 S.2.1 dX2_countBorders_4 rfl (lv_at hl 2 rfl) ?_
      refine lv_aload_n S.1 S.2.1 dX2_countBorders_5 rfl (lv_at hl 0 rfl) ?_
      refine m_getI (mb + 1) 0 S hw (by omega) hm.s1 rfl rfl in_X2 (by decide) wf_X2_9 dX2_countBorders_6 ?_
      refine m_top (show M (mb + 1) 0 = nI n from hn) ?_
      refine n_ge (tgt := 29) S (by omega) (by omega) dX2_countBorders_9 (by decide) (fun c1 => absurd c1 (by omega)) (fun c1 => ?_)
      refine lv_aload_n S.1 S.2.1 dX2_countBorders_12 rfl (lv_at hl 0 rfl) ?_
      refine lv_iload_n S.1 S.2.1 dX2_countBorders_13 rfl (lv_at hl 2 rfl) ?_
      refine r_VI (As := [.int (nI i)]) (rest := []) (mb + 1) S hw (by omega) hm.s1 rfl (c_X2_isBorder l G N K ad M mb hm i (by omega)) mf_X2_isBorder wm_X2_46 ⟨by decide, by decide⟩ ⟨Nat.le_refl _, Nat.le_refl _⟩ hl.1 rfl (Nat.le_of_ble_eq_true rfl) dX2_countBorders_14 (fun H locs hw => ?_)
      refine b_eq (tgt := 23) S dX2_countBorders_17 (by decide) (fun c2 => ?_) (fun c2 => ?_)
      · refine lv_iinc (v := nI (i + 1)) (lv' := [(2, .int (nI (i + 1))), (0, .ref (ad (mb + 1))), (1, .int (nI (cntB (fun j => (bord (M (mb + 4)) (M (mb + 3)) j).isSome) i)))]) S.1 S.2.1 dX2_countBorders_23 hl (k := 2) rfl (iinc1 _) (by decide) rfl (fun ls hl => ?_)
        refine lv_goto (tgt := 4) S.1 S.2.1 dX2_countBorders_26 (by decide) ?_
        have hl : lv_has ls 3 [(2, .int (nI (i + 1))), (0, .ref (ad (mb + 1))), (1, .int (nI (cntB (fun j => (bord (M (mb + 4)) (M (mb + 3)) j).isSome) (i + 1))))] := by rw [cntB_f (p := fun j => (bord (M (mb + 4)) (M (mb + 3)) j).isSome) (c2)]; exact hl
        exact ih (i + 1) (by omega) _ _ ls hw (lv_sub hl [1, 2, 0] rfl)
      · refine lv_iinc (v := nI ((cntB (fun j => (bord (M (mb + 4)) (M (mb + 3)) j).isSome) i) + 1)) (lv' := [(1, .int (nI ((cntB (fun j => (bord (M (mb + 4)) (M (mb + 3)) j).isSome) i) + 1))), (0, .ref (ad (mb + 1))), (2, .int (nI i))]) S.1 S.2.1 dX2_countBorders_20 hl (k := 1) rfl (iinc1 _) (by decide) rfl (fun ls hl => ?_)
        refine lv_iinc (v := nI (i + 1)) (lv' := [(2, .int (nI (i + 1))), (1, .int (nI ((cntB (fun j => (bord (M (mb + 4)) (M (mb + 3)) j).isSome) i) + 1))), (0, .ref (ad (mb + 1)))]) S.1 S.2.1 dX2_countBorders_23 hl (k := 2) rfl (iinc1 _) (by decide) rfl (fun ls hl => ?_)
        refine lv_goto (tgt := 4) S.1 S.2.1 dX2_countBorders_26 (by decide) ?_
        have hl : lv_has ls 3 [(2, .int (nI (i + 1))), (1, .int (nI (cntB (fun j => (bord (M (mb + 4)) (M (mb + 3)) j).isSome) (i + 1)))), (0, .ref (ad (mb + 1)))] := by rw [cntB_t (p := fun j => (bord (M (mb + 4)) (M (mb + 3)) j).isSome) (c2)]; exact hl
        exact ih (i + 1) (by omega) _ _ ls hw (lv_sub hl [2, 1, 0] rfl)
  refine lv_iconst (v := nI 0) S.1 S.2.1 dX2_countBorders_0 (by decide) ?_
  refine lv_istore_n (lv' := [(1, .int (nI 0)), (0, .ref (ad (mb + 1)))]) S.1 S.2.1 dX2_countBorders_1 rfl hl (by decide) rfl (fun ls hl => ?_)
  refine lv_iconst (v := nI 0) S.1 S.2.1 dX2_countBorders_2 (by decide) ?_
  refine lv_istore_n (lv' := [(2, .int (nI 0)), (1, .int (nI 0)), (0, .ref (ad (mb + 1)))]) S.1 S.2.1 dX2_countBorders_3 rfl hl (by decide) rfl (fun ls hl => ?_)
  exact loop n 0 (by omega) _ _ ls hw (lv_sub hl [2, 1, 0] rfl)

set_option maxHeartbeats 4000000 in
set_option maxRecDepth 100000 in
/-- Pipe.countMixed -/
theorem c_X2_countMixed (l : Launch) (G : GT) (N K : Nat) (ad : Nat → Nat) (M : Mem) (mb : Nat) (hm : IsM N K mb) (n : Nat) (hn : M (mb + 1) 0 = nI n) (hn1 : n ≤ 120) : CrI l G N K ad yX2_countMixed cX2_countMixed 3 .int 1 21 [.ref (ad (mb + 1))] M (nI (cntB (fun j => !pureB (M (mb + 4)) j) n)) := by
  refine cm_startI (by decide +kernel) (Nat.le_of_ble_eq_true rfl) ?_
  intro p e s m below meth c ls S hr hlocks hw hl
  have hl : lv_has ls 3 [(0, .ref (ad (mb + 1)))] := hl
  have hlt_mb := hm.lt
  generalize hAv : List.toArray ([.ref (ad (mb + 1))] : List Value) = A at S ⊢
  have loop : ∀ (n' : Nat) (i : Nat), i + n' = n → ∀ (H : Heap) (locs : List Loc) (ls : Array Slot), Wd G N K ad M s H locs → lv_has ls 3 [(0, .ref (ad (mb + 1))), (1, .int (nI (cntB (fun j => !pureB (M (mb + 4)) j) i))), (2, .int (nI i))] → W p l e { frames := 1, cells := 0, slots := 0, locals := 21 } s m A below meth c H locs 0 0 (QmI G N K ad (fun r M' => r = (nI (cntB (fun j => !pureB (M (mb + 4)) j) n)) ∧ M' = M) below A s) (F0 m 4 ls []) := by
    intro n'
    induction n' with
    | zero =>
      intro i hi H locs ls hw hl
      refine lv_iload_n S.1 S.2.1 dX2_countMixed_4 rfl (lv_at hl 2 rfl) ?_
      refine lv_aload_n S.1 S.2.1 dX2_countMixed_5 rfl (lv_at hl 0 rfl) ?_
      refine m_getI (mb + 1) 0 S hw (by omega) hm.s1 rfl rfl in_X2 (by decide) wf_X2_9 dX2_countMixed_6 ?_
      refine m_top (show M (mb + 1) 0 = nI n from hn) ?_
      refine n_ge (tgt := 29) S (by omega) (by omega) dX2_countMixed_9 (by decide) (fun c1 => ?_) (fun c1 => absurd c1 (by omega))
      refine lv_iload_n S.1 S.2.1 dX2_countMixed_29 rfl (lv_at hl 1 rfl) ?_
      exact m_reti S hr hlocks hw dX2_countMixed_30 ⟨by rw [show i = n by omega], rfl⟩
    | succ n' ih =>
      intro i hi H locs ls hw hl
      refine lv_iload_n S.1 S.2.1 dX2_countMixed_4 rfl (lv_at hl 2 rfl) ?_
      refine lv_aload_n S.1 S.2.1 dX2_countMixed_5 rfl (lv_at hl 0 rfl) ?_
      refine m_getI (mb + 1) 0 S hw (by omega) hm.s1 rfl rfl in_X2 (by decide) wf_X2_9 dX2_countMixed_6 ?_
      refine m_top (show M (mb + 1) 0 = nI n from hn) ?_
      refine n_ge (tgt := 29) S (by omega) (by omega) dX2_countMixed_9 (by decide) (fun c1 => absurd c1 (by omega)) (fun c1 => ?_)
      refine lv_aload_n S.1 S.2.1 dX2_countMixed_12 rfl (lv_at hl 0 rfl) ?_
      refine lv_iload_n S.1 S.2.1 dX2_countMixed_13 rfl (lv_at hl 2 rfl) ?_
      refine r_VI (As := [.int (nI i)]) (rest := []) (mb + 1) S hw (by omega) hm.s1 rfl (c_X2_isPure l G N K ad M mb hm i (by omega)) mf_X2_isPure wm_X2_38 ⟨by decide, by decide⟩ ⟨Nat.le_refl _, Nat.le_refl _⟩ hl.1 rfl (Nat.le_of_ble_eq_true rfl) dX2_countMixed_14 (fun H locs hw => ?_)
      refine b_ne (tgt := 23) S dX2_countMixed_17 (by decide) (fun c2 => ?_) (fun c2 => ?_)
      · refine lv_iinc (v := nI (i + 1)) (lv' := [(2, .int (nI (i + 1))), (0, .ref (ad (mb + 1))), (1, .int (nI (cntB (fun j => !pureB (M (mb + 4)) j) i)))]) S.1 S.2.1 dX2_countMixed_23 hl (k := 2) rfl (iinc1 _) (by decide) rfl (fun ls hl => ?_)
        refine lv_goto (tgt := 4) S.1 S.2.1 dX2_countMixed_26 (by decide) ?_
        have hl : lv_has ls 3 [(2, .int (nI (i + 1))), (0, .ref (ad (mb + 1))), (1, .int (nI (cntB (fun j => !pureB (M (mb + 4)) j) (i + 1))))] := by rw [cntB_f (p := fun j => !pureB (M (mb + 4)) j) (by rw [c2]; rfl)]; exact hl
        exact ih (i + 1) (by omega) _ _ ls hw (lv_sub hl [1, 2, 0] rfl)
      · refine lv_iinc (v := nI ((cntB (fun j => !pureB (M (mb + 4)) j) i) + 1)) (lv' := [(1, .int (nI ((cntB (fun j => !pureB (M (mb + 4)) j) i) + 1))), (0, .ref (ad (mb + 1))), (2, .int (nI i))]) S.1 S.2.1 dX2_countMixed_20 hl (k := 1) rfl (iinc1 _) (by decide) rfl (fun ls hl => ?_)
        refine lv_iinc (v := nI (i + 1)) (lv' := [(2, .int (nI (i + 1))), (1, .int (nI ((cntB (fun j => !pureB (M (mb + 4)) j) i) + 1))), (0, .ref (ad (mb + 1)))]) S.1 S.2.1 dX2_countMixed_23 hl (k := 2) rfl (iinc1 _) (by decide) rfl (fun ls hl => ?_)
        refine lv_goto (tgt := 4) S.1 S.2.1 dX2_countMixed_26 (by decide) ?_
        have hl : lv_has ls 3 [(2, .int (nI (i + 1))), (1, .int (nI (cntB (fun j => !pureB (M (mb + 4)) j) (i + 1)))), (0, .ref (ad (mb + 1)))] := by rw [cntB_t (p := fun j => !pureB (M (mb + 4)) j) (by rw [c2]; rfl)]; exact hl
        exact ih (i + 1) (by omega) _ _ ls hw (lv_sub hl [2, 1, 0] rfl)
  refine lv_iconst (v := nI 0) S.1 S.2.1 dX2_countMixed_0 (by decide) ?_
  refine lv_istore_n (lv' := [(1, .int (nI 0)), (0, .ref (ad (mb + 1)))]) S.1 S.2.1 dX2_countMixed_1 rfl hl (by decide) rfl (fun ls hl => ?_)
  refine lv_iconst (v := nI 0) S.1 S.2.1 dX2_countMixed_2 (by decide) ?_
  refine lv_istore_n (lv' := [(2, .int (nI 0)), (1, .int (nI 0)), (0, .ref (ad (mb + 1)))]) S.1 S.2.1 dX2_countMixed_3 rfl hl (by decide) rfl (fun ls hl => ?_)
  exact loop n 0 (by omega) _ _ ls hw (lv_sub hl [2, 1, 0] rfl)

set_option maxHeartbeats 4000000 in
set_option maxRecDepth 100000 in
/-- Pipe.countOf -/
theorem c_X2_countOf (l : Launch) (G : GT) (N K : Nat) (ad : Nat → Nat) (M : Mem) (mb : Nat) (hm : IsM N K mb) (n : Nat) (hn : M (mb + 1) 0 = nI n) (hn1 : n ≤ 120) (b : Int32) : CrI l G N K ad yX2_countOf cX2_countOf 4 .int 0 0 [.ref (ad (mb + 1)), .int b] M (nI (cntB (fun j => eqB (M (mb + 2) j) b) n)) := by
  refine cm_startI (by decide +kernel) (Nat.le_of_ble_eq_true rfl) ?_
  intro p e s m below meth c ls S hr hlocks hw hl
  have hl : lv_has ls 4 [(0, .ref (ad (mb + 1))), (1, .int b)] := hl
  have hlt_mb := hm.lt
  generalize hAv : List.toArray ([.ref (ad (mb + 1)), .int b] : List Value) = A at S ⊢
  have loop : ∀ (n' : Nat) (i : Nat), i + n' = n → ∀ (H : Heap) (locs : List Loc) (ls : Array Slot), Wd G N K ad M s H locs → lv_has ls 4 [(0, .ref (ad (mb + 1))), (1, .int b), (2, .int (nI (cntB (fun j => eqB (M (mb + 2) j) b) i))), (3, .int (nI i))] → W p l e { frames := 0, cells := 0, slots := 0, locals := 0 } s m A below meth c H locs 0 0 (QmI G N K ad (fun r M' => r = (nI (cntB (fun j => eqB (M (mb + 2) j) b) n)) ∧ M' = M) below A s) (F0 m 4 ls []) := by
    intro n'
    induction n' with
    | zero =>
      intro i hi H locs ls hw hl
      refine lv_iload_n S.1 S.2.1 dX2_countOf_4 rfl (lv_at hl 3 rfl) ?_
      refine lv_aload_n S.1 S.2.1 dX2_countOf_5 rfl (lv_at hl 0 rfl) ?_
      refine m_getI (mb + 1) 0 S hw (by omega) hm.s1 rfl rfl in_X2 (by decide) wf_X2_9 dX2_countOf_6 ?_
      refine m_top (show M (mb + 1) 0 = nI n from hn) ?_
      refine n_ge (tgt := 31) S (by omega) (by omega) dX2_countOf_9 (by decide) (fun c1 => ?_) (fun c1 => absurd c1 (by omega))
      refine lv_iload_n S.1 S.2.1 dX2_countOf_31 rfl (lv_at hl 2 rfl) ?_
      exact m_reti S hr hlocks hw dX2_countOf_32 ⟨by rw [show i = n by omega], rfl⟩
    | succ n' ih =>
      intro i hi H locs ls hw hl
      refine lv_iload_n S.1 S.2.1 dX2_countOf_4 rfl (lv_at hl 3 rfl) ?_
      refine lv_aload_n S.1 S.2.1 dX2_countOf_5 rfl (lv_at hl 0 rfl) ?_
      refine m_getI (mb + 1) 0 S hw (by omega) hm.s1 rfl rfl in_X2 (by decide) wf_X2_9 dX2_countOf_6 ?_
      refine m_top (show M (mb + 1) 0 = nI n from hn) ?_
      refine n_ge (tgt := 31) S (by omega) (by omega) dX2_countOf_9 (by decide) (fun c1 => absurd c1 (by omega)) (fun c1 => ?_)
      refine lv_aload_n S.1 S.2.1 dX2_countOf_12 rfl (lv_at hl 0 rfl) ?_
      refine m_getR (mb + 1) 1 (mb + 2) S hw (by omega) hm.s1 rfl rfl in_X2 (by decide) wf_X2_15 dX2_countOf_13 ?_
      refine lv_iload_n S.1 S.2.1 dX2_countOf_16 rfl (lv_at hl 3 rfl) ?_
      refine m_ald (mb + 2) i S hw (by omega) hm.s2 (by decide) (by omega) rfl dX2_countOf_17 ?_
      refine lv_iload_n S.1 S.2.1 dX2_countOf_18 rfl (lv_at hl 1 rfl) ?_
      refine lv_icmp_ne (tgt := 25) S.1 S.2.1 dX2_countOf_19 (by decide) (fun c2 => ?_) (fun c2 => ?_)
      · refine lv_iinc (v := nI (i + 1)) (lv' := [(3, .int (nI (i + 1))), (0, .ref (ad (mb + 1))), (1, .int b), (2, .int (nI (cntB (fun j => eqB (M (mb + 2) j) b) i)))]) S.1 S.2.1 dX2_countOf_25 hl (k := 3) rfl (iinc1 _) (by decide) rfl (fun ls hl => ?_)
        refine lv_goto (tgt := 4) S.1 S.2.1 dX2_countOf_28 (by decide) ?_
        have hl : lv_has ls 4 [(3, .int (nI (i + 1))), (0, .ref (ad (mb + 1))), (1, .int b), (2, .int (nI (cntB (fun j => eqB (M (mb + 2) j) b) (i + 1))))] := by rw [cntB_f (p := fun j => eqB (M (mb + 2) j) b) (eqB_f c2)]; exact hl
        exact ih (i + 1) (by omega) _ _ ls hw (lv_sub hl [1, 2, 3, 0] rfl)
      · refine lv_iinc (v := nI ((cntB (fun j => eqB (M (mb + 2) j) b) i) + 1)) (lv' := [(2, .int (nI ((cntB (fun j => eqB (M (mb + 2) j) b) i) + 1))), (0, .ref (ad (mb + 1))), (1, .int b), (3, .int (nI i))]) S.1 S.2.1 dX2_countOf_22 hl (k := 2) rfl (iinc1 _) (by decide) rfl (fun ls hl => ?_)
        refine lv_iinc (v := nI (i + 1)) (lv' := [(3, .int (nI (i + 1))), (2, .int (nI ((cntB (fun j => eqB (M (mb + 2) j) b) i) + 1))), (0, .ref (ad (mb + 1))), (1, .int b)]) S.1 S.2.1 dX2_countOf_25 hl (k := 3) rfl (iinc1 _) (by decide) rfl (fun ls hl => ?_)
        refine lv_goto (tgt := 4) S.1 S.2.1 dX2_countOf_28 (by decide) ?_
        have hl : lv_has ls 4 [(3, .int (nI (i + 1))), (2, .int (nI (cntB (fun j => eqB (M (mb + 2) j) b) (i + 1)))), (0, .ref (ad (mb + 1))), (1, .int b)] := by rw [cntB_t (p := fun j => eqB (M (mb + 2) j) b) (eqB_t c2)]; exact hl
        exact ih (i + 1) (by omega) _ _ ls hw (lv_sub hl [2, 3, 1, 0] rfl)
  refine lv_iconst (v := nI 0) S.1 S.2.1 dX2_countOf_0 (by decide) ?_
  refine lv_istore_n (lv' := [(2, .int (nI 0)), (0, .ref (ad (mb + 1))), (1, .int b)]) S.1 S.2.1 dX2_countOf_1 rfl hl (by decide) rfl (fun ls hl => ?_)
  refine lv_iconst (v := nI 0) S.1 S.2.1 dX2_countOf_2 (by decide) ?_
  refine lv_istore_n (lv' := [(3, .int (nI 0)), (2, .int (nI 0)), (0, .ref (ad (mb + 1))), (1, .int b)]) S.1 S.2.1 dX2_countOf_3 rfl hl (by decide) rfl (fun ls hl => ?_)
  exact loop n 0 (by omega) _ _ ls hw (lv_sub hl [2, 3, 1, 0] rfl)

set_option maxHeartbeats 4000000 in
set_option maxRecDepth 100000 in
/-- Pipe.leastOf -/
theorem c_X2_leastOf (l : Launch) (G : GT) (N K : Nat) (ad : Nat → Nat) (M : Mem) (mb : Nat) (hm : IsM N K mb) (n : Nat) (hn : M (mb + 1) 0 = nI n) (hn1 : n ≤ 120) (b : Int32) : CrI l G N K ad yX2_leastOf cX2_leastOf 3 .int 0 0 [.ref (ad (mb + 1)), .int b] M (enc (fstE (fun j => eqB (M (mb + 2) j) b) n 0)) := by
  refine cm_startI (by decide +kernel) (Nat.le_of_ble_eq_true rfl) ?_
  intro p e s m below meth c ls S hr hlocks hw hl
  have hl : lv_has ls 3 [(0, .ref (ad (mb + 1))), (1, .int b)] := hl
  have hlt_mb := hm.lt
  generalize hAv : List.toArray ([.ref (ad (mb + 1)), .int b] : List Value) = A at S ⊢
  have loop : ∀ (n' : Nat) (i : Nat), i + n' = n → fstE (fun j => eqB (M (mb + 2) j) b) n 0 = fstE (fun j => eqB (M (mb + 2) j) b) n' i → ∀ (H : Heap) (locs : List Loc) (ls : Array Slot), Wd G N K ad M s H locs → lv_has ls 3 [(0, .ref (ad (mb + 1))), (1, .int b), (2, .int (nI i))] → W p l e { frames := 0, cells := 0, slots := 0, locals := 0 } s m A below meth c H locs 0 0 (QmI G N K ad (fun r M' => r = (enc (fstE (fun j => eqB (M (mb + 2) j) b) n 0)) ∧ M' = M) below A s) (F0 m 2 ls []) := by
    intro n'
    induction n' with
    | zero =>
      intro i hi he H locs ls hw hl
      refine lv_iload_n S.1 S.2.1 dX2_leastOf_2 rfl (lv_at hl 2 rfl) ?_
      refine lv_aload_n S.1 S.2.1 dX2_leastOf_3 rfl (lv_at hl 0 rfl) ?_
      refine m_getI (mb + 1) 0 S hw (by omega) hm.s1 rfl rfl in_X2 (by decide) wf_X2_9 dX2_leastOf_4 ?_
      refine m_top (show M (mb + 1) 0 = nI n from hn) ?_
      refine n_ge (tgt := 28) S (by omega) (by omega) dX2_leastOf_7 (by decide) (fun c1 => ?_) (fun c1 => absurd c1 (by omega))
      refine lv_iconst (v := (-1)) S.1 S.2.1 dX2_leastOf_28 (by decide) ?_
      exact m_reti S hr hlocks hw dX2_leastOf_29 ⟨by rw [he]; rfl, rfl⟩
    | succ n' ih =>
      intro i hi he H locs ls hw hl
      refine lv_iload_n S.1 S.2.1 dX2_leastOf_2 rfl (lv_at hl 2 rfl) ?_
      refine lv_aload_n S.1 S.2.1 dX2_leastOf_3 rfl (lv_at hl 0 rfl) ?_
      refine m_getI (mb + 1) 0 S hw (by omega) hm.s1 rfl rfl in_X2 (by decide) wf_X2_9 dX2_leastOf_4 ?_
      refine m_top (show M (mb + 1) 0 = nI n from hn) ?_
      refine n_ge (tgt := 28) S (by omega) (by omega) dX2_leastOf_7 (by decide) (fun c1 => absurd c1 (by omega)) (fun c1 => ?_)
      refine lv_aload_n S.1 S.2.1 dX2_leastOf_10 rfl (lv_at hl 0 rfl) ?_
      refine m_getR (mb + 1) 1 (mb + 2) S hw (by omega) hm.s1 rfl rfl in_X2 (by decide) wf_X2_15 dX2_leastOf_11 ?_
      refine lv_iload_n S.1 S.2.1 dX2_leastOf_14 rfl (lv_at hl 2 rfl) ?_
      refine m_ald (mb + 2) i S hw (by omega) hm.s2 (by decide) (by omega) rfl dX2_leastOf_15 ?_
      refine lv_iload_n S.1 S.2.1 dX2_leastOf_16 rfl (lv_at hl 1 rfl) ?_
      refine lv_icmp_ne (tgt := 22) S.1 S.2.1 dX2_leastOf_17 (by decide) (fun c2 => ?_) (fun c2 => ?_)
      · refine lv_iinc (v := nI (i + 1)) (lv' := [(2, .int (nI (i + 1))), (0, .ref (ad (mb + 1))), (1, .int b)]) S.1 S.2.1 dX2_leastOf_22 hl (k := 2) rfl (iinc1 _) (by decide) rfl (fun ls hl => ?_)
        refine lv_goto (tgt := 2) S.1 S.2.1 dX2_leastOf_25 (by decide) ?_
        exact ih (i + 1) (by omega) (he.trans (fstE_f (p := (fun j => eqB (M (mb + 2) j) b)) (eqB_f c2))) _ _ ls hw (lv_sub hl [1, 2, 0] rfl)
      · refine lv_iload_n S.1 S.2.1 dX2_leastOf_20 rfl (lv_at hl 2 rfl) ?_
        exact m_reti S hr hlocks hw dX2_leastOf_21 ⟨by rw [he, fstE_t (p := (fun j => eqB (M (mb + 2) j) b)) (eqB_t c2)]; rfl, rfl⟩
  refine lv_iconst (v := nI 0) S.1 S.2.1 dX2_leastOf_0 (by decide) ?_
  refine lv_istore_n (lv' := [(2, .int (nI 0)), (0, .ref (ad (mb + 1))), (1, .int b)]) S.1 S.2.1 dX2_leastOf_1 rfl hl (by decide) rfl (fun ls hl => ?_)
  exact loop n 0 (by omega) rfl _ _ ls hw (lv_sub hl [1, 2, 0] rfl)

set_option maxHeartbeats 4000000 in
set_option maxRecDepth 100000 in
/-- Pipe.greatestOf -/
theorem c_X2_greatestOf (l : Launch) (G : GT) (N K : Nat) (ad : Nat → Nat) (M : Mem) (mb : Nat) (hm : IsM N K mb) (n : Nat) (hn : M (mb + 1) 0 = nI n) (hn1 : n ≤ 120) (b : Int32) : CrI l G N K ad yX2_greatestOf cX2_greatestOf 3 .int 0 0 [.ref (ad (mb + 1)), .int b] M (enc (lstB (fun j => eqB (M (mb + 2) j) b) n)) := by
  refine cm_startI (by decide +kernel) (Nat.le_of_ble_eq_true rfl) ?_
  intro p e s m below meth c ls S hr hlocks hw hl
  have hl : lv_has ls 3 [(0, .ref (ad (mb + 1))), (1, .int b)] := hl
  have hlt_mb := hm.lt
  generalize hAv : List.toArray ([.ref (ad (mb + 1)), .int b] : List Value) = A at S ⊢
  have loop : ∀ (n' : Nat), n' ≤ 120 → lstB (fun j => eqB (M (mb + 2) j) b) n = lstB (fun j => eqB (M (mb + 2) j) b) n' → ∀ (H : Heap) (locs : List Loc) (ls : Array Slot), Wd G N K ad M s H locs → lv_has ls 3 [(0, .ref (ad (mb + 1))), (1, .int b), (2, .int (nI n' - nI 1))] → W p l e { frames := 0, cells := 0, slots := 0, locals := 0 } s m A below meth c H locs 0 0 (QmI G N K ad (fun r M' => r = (enc (lstB (fun j => eqB (M (mb + 2) j) b) n)) ∧ M' = M) below A s) (F0 m 7 ls []) := by
    intro n'
    induction n' with
    | zero =>
      intro hc he H locs ls hw hl
      refine lv_iload_n S.1 S.2.1 dX2_greatestOf_7 rfl (lv_at hl 2 rfl) ?_
      refine lv_if_lt (tgt := 29) S.1 S.2.1 dX2_greatestOf_8 (by decide) (fun c1 => ?_) (fun c1 => absurd c1 (fun z => z nI_m1))
      refine lv_iconst (v := (-1)) S.1 S.2.1 dX2_greatestOf_29 (by decide) ?_
      exact m_reti S hr hlocks hw dX2_greatestOf_30 ⟨by rw [he]; rfl, rfl⟩
    | succ c' ih =>
      intro hc he H locs ls hw hl
      have hl : lv_has ls 3 [(0, .ref (ad (mb + 1))), (1, .int b), (2, .int (nI (c')))] := by rw [predN] at hl; exact hl
      refine lv_iload_n S.1 S.2.1 dX2_greatestOf_7 rfl (lv_at hl 2 rfl) ?_
      refine lv_if_lt (tgt := 29) S.1 S.2.1 dX2_greatestOf_8 (by decide) (fun c1 => absurd c1 (nI_pos (by omega))) (fun c1 => ?_)
      refine lv_aload_n S.1 S.2.1 dX2_greatestOf_11 rfl (lv_at hl 0 rfl) ?_
      refine m_getR (mb + 1) 1 (mb + 2) S hw (by omega) hm.s1 rfl rfl in_X2 (by decide) wf_X2_15 dX2_greatestOf_12 ?_
      refine lv_iload_n S.1 S.2.1 dX2_greatestOf_15 rfl (lv_at hl 2 rfl) ?_
      refine m_ald (mb + 2) (c') S hw (by omega) hm.s2 (by decide) (by omega) rfl dX2_greatestOf_16 ?_
      refine lv_iload_n S.1 S.2.1 dX2_greatestOf_17 rfl (lv_at hl 1 rfl) ?_
      refine lv_icmp_ne (tgt := 23) S.1 S.2.1 dX2_greatestOf_18 (by decide) (fun c2 => ?_) (fun c2 => ?_)
      · refine lv_iinc (v := nI c' - nI 1) (lv' := [(2, .int (nI c' - nI 1)), (0, .ref (ad (mb + 1))), (1, .int b)]) S.1 S.2.1 dX2_greatestOf_23 hl (k := 2) rfl (iincM1 _) (by decide) rfl (fun ls hl => ?_)
        refine lv_goto (tgt := 7) S.1 S.2.1 dX2_greatestOf_26 (by decide) ?_
        exact ih (by omega) (he.trans (lstB_f (p := (fun j => eqB (M (mb + 2) j) b)) (eqB_f c2))) _ _ ls hw (lv_sub hl [1, 2, 0] rfl)
      · refine lv_iload_n S.1 S.2.1 dX2_greatestOf_21 rfl (lv_at hl 2 rfl) ?_
        exact m_reti S hr hlocks hw dX2_greatestOf_22 ⟨by rw [he, lstB_t (p := (fun j => eqB (M (mb + 2) j) b)) (eqB_t c2)]; rfl, rfl⟩
  refine lv_aload_n S.1 S.2.1 dX2_greatestOf_0 rfl (lv_at hl 0 rfl) ?_
  refine m_getI (mb + 1) 0 S hw (by omega) hm.s1 rfl rfl in_X2 (by decide) wf_X2_9 dX2_greatestOf_1 ?_
  refine m_top (show M (mb + 1) 0 = nI n from hn) ?_
  refine lv_iconst (v := nI 1) S.1 S.2.1 dX2_greatestOf_4 (by decide) ?_
  refine lv_isub S.1 S.2.1 dX2_greatestOf_5 ?_
  refine lv_istore_n (lv' := [(2, .int ((nI n) - (nI 1))), (0, .ref (ad (mb + 1))), (1, .int b)]) S.1 S.2.1 dX2_greatestOf_6 rfl hl (by decide) rfl (fun ls hl => ?_)
  exact loop n hn1 rfl _ _ ls hw (lv_sub hl [1, 2, 0] rfl)

set_option maxHeartbeats 4000000 in
set_option maxRecDepth 100000 in
/-- Pipe.put -/
theorem c_X2_put (l : Launch) (G : GT) (N K : Nat) (ad : Nat → Nat) (M : Mem) (mb : Nat) (hm : IsM N K mb) (j : Nat) (hj : j < 120) (x y : Int32) : CmV l G N K ad yX2_put cX2_put 4 0 0 [.ref (ad (mb + 1)), .int (nI j), .int x, .int y] M (fun M1 => M1 (mb + 1) = (M (mb + 1)) ∧ M1 (mb + 2) = (upd (M (mb + 2)) j x) ∧ M1 (mb + 3) = (upd (M (mb + 3)) j y) ∧ M1 (mb + 4) = (upd (M (mb + 4)) j (-1)) ∧ M1 (mb + 5) = (upd (M (mb + 5)) j (nI 0)) ∧ Fr (mb + 1) (mb + 6) M M1) := by
  refine cm_startV (by decide +kernel) (Nat.le_of_ble_eq_true rfl) ?_
  intro p e s m below meth c ls S hr hlocks hw hl
  have hl : lv_has ls 4 [(0, .ref (ad (mb + 1))), (1, .int (nI j)), (2, .int x), (3, .int y)] := hl
  have hlt_mb := hm.lt
  refine lv_aload_n S.1 S.2.1 dX2_put_0 rfl (lv_at hl 0 rfl) ?_
  refine m_getR (mb + 1) 1 (mb + 2) S hw (by omega) hm.s1 rfl rfl in_X2 (by decide) wf_X2_15 dX2_put_1 ?_
  refine lv_iload_n S.1 S.2.1 dX2_put_4 rfl (lv_at hl 1 rfl) ?_
  refine lv_iload_n S.1 S.2.1 dX2_put_5 rfl (lv_at hl 2 rfl) ?_
  refine n_ast (mb + 2) j S hw (by omega) hm.s2 (by decide) (by omega) rfl dX2_put_6 (fun M1 H locs eM1 hw => ?_)
  refine lv_aload_n S.1 S.2.1 dX2_put_7 rfl (lv_at hl 0 rfl) ?_
  refine m_getR (mb + 1) 2 (mb + 3) S hw (by omega) hm.s1 rfl rfl in_X2 (by decide) wf_X2_19 dX2_put_8 ?_
  refine lv_iload_n S.1 S.2.1 dX2_put_11 rfl (lv_at hl 1 rfl) ?_
  refine lv_iload_n S.1 S.2.1 dX2_put_12 rfl (lv_at hl 3 rfl) ?_
  refine n_ast (mb + 3) j S hw (by omega) hm.s3 (by decide) (by omega) rfl dX2_put_13 (fun M2 H locs eM2 hw => ?_)
  refine lv_aload_n S.1 S.2.1 dX2_put_14 rfl (lv_at hl 0 rfl) ?_
  refine m_getR (mb + 1) 3 (mb + 4) S hw (by omega) hm.s1 rfl rfl in_X2 (by decide) wf_X2_22 dX2_put_15 ?_
  refine lv_iload_n S.1 S.2.1 dX2_put_18 rfl (lv_at hl 1 rfl) ?_
  refine lv_iconst (v := (-1)) S.1 S.2.1 dX2_put_19 (by decide) ?_
  refine n_ast (mb + 4) j S hw (by omega) hm.s4 (by decide) (by omega) rfl dX2_put_20 (fun M3 H locs eM3 hw => ?_)
  refine lv_aload_n S.1 S.2.1 dX2_put_21 rfl (lv_at hl 0 rfl) ?_
  refine m_getR (mb + 1) 4 (mb + 5) S hw (by omega) hm.s1 rfl rfl in_X2 (by decide) wf_X2_25 dX2_put_22 ?_
  refine lv_iload_n S.1 S.2.1 dX2_put_25 rfl (lv_at hl 1 rfl) ?_
  refine lv_iconst (v := nI 0) S.1 S.2.1 dX2_put_26 (by decide) ?_
  refine n_ast (mb + 5) j S hw (by omega) hm.s5 (by decide) (by omega) rfl dX2_put_27 (fun M4 H locs eM4 hw => ?_)
  have hq5 : M1 (mb + 1) = M (mb + 1) := by rw [eM1, va_up_ne _ _ (by omega)]
  have hq6 : M2 (mb + 1) = M (mb + 1) := by rw [eM2, va_up_ne _ _ (by omega), hq5]
  have hq7 : M3 (mb + 1) = M (mb + 1) := by rw [eM3, va_up_ne _ _ (by omega), hq6]
  have hq8 : M4 (mb + 1) = M (mb + 1) := by rw [eM4, va_up_ne _ _ (by omega), hq7]
  have hq9 : M1 (mb + 2) = upd (M (mb + 2)) j x := by rw [eM1, va_up_self]
  have hq10 : M2 (mb + 2) = upd (M (mb + 2)) j x := by rw [eM2, va_up_ne _ _ (by omega), hq9]
  have hq11 : M3 (mb + 2) = upd (M (mb + 2)) j x := by rw [eM3, va_up_ne _ _ (by omega), hq10]
  have hq12 : M4 (mb + 2) = upd (M (mb + 2)) j x := by rw [eM4, va_up_ne _ _ (by omega), hq11]
  have hq13 : M1 (mb + 3) = M (mb + 3) := by rw [eM1, va_up_ne _ _ (by omega)]
  have hq14 : M2 (mb + 3) = upd (M (mb + 3)) j y := by rw [eM2, va_up_self, hq13]
  have hq15 : M3 (mb + 3) = upd (M (mb + 3)) j y := by rw [eM3, va_up_ne _ _ (by omega), hq14]
  have hq16 : M4 (mb + 3) = upd (M (mb + 3)) j y := by rw [eM4, va_up_ne _ _ (by omega), hq15]
  have hq17 : M1 (mb + 4) = M (mb + 4) := by rw [eM1, va_up_ne _ _ (by omega)]
  have hq18 : M2 (mb + 4) = M (mb + 4) := by rw [eM2, va_up_ne _ _ (by omega), hq17]
  have hq19 : M3 (mb + 4) = upd (M (mb + 4)) j (-1) := by rw [eM3, va_up_self, hq18]
  have hq20 : M4 (mb + 4) = upd (M (mb + 4)) j (-1) := by rw [eM4, va_up_ne _ _ (by omega), hq19]
  have hq21 : M1 (mb + 5) = M (mb + 5) := by rw [eM1, va_up_ne _ _ (by omega)]
  have hq22 : M2 (mb + 5) = M (mb + 5) := by rw [eM2, va_up_ne _ _ (by omega), hq21]
  have hq23 : M3 (mb + 5) = M (mb + 5) := by rw [eM3, va_up_ne _ _ (by omega), hq22]
  have hq24 : M4 (mb + 5) = upd (M (mb + 5)) j (nI 0) := by rw [eM4, va_up_self, hq23]
  exact m_retv S hr hlocks hw dX2_put_28 ⟨hq8, hq12, hq16, hq20, hq24, (by rw [eM4]; exact Fr.up (by rw [eM3]; exact Fr.up (by rw [eM2]; exact Fr.up (by rw [eM1]; exact Fr.up Fr.rf (by omega) (by omega)) (by omega) (by omega)) (by omega) (by omega)) (by omega) (by omega))⟩

set_option maxHeartbeats 4000000 in
set_option maxRecDepth 100000 in
/-- Pipe.copyFrom -/
theorem c_X2_copyFrom (l : Launch) (G : GT) (N K : Nat) (ad : Nat → Nat) (M : Mem) (mb : Nat) (hm : IsM N K mb) (mo : Nat) (ho : IsM N K mo) (hne : mo + 12 < mb ∨ mb + 12 < mo) (n : Nat) (hn : M (mo + 1) 0 = nI n) (hn1 : n ≤ 120) : CmV l G N K ad yX2_copyFrom cX2_copyFrom 2 1 26 [.ref (ad (mb + 1)), .ref (ad (mo + 1))] M (fun M1 => M1 (mb + 1) = (upd (M (mb + 1)) 0 (nI n)) ∧ M1 (mb + 2) = (va_cpy (M (mo + 2)) (M (mb + 2)) 0 0 n) ∧ M1 (mb + 3) = (va_cpy (M (mo + 3)) (M (mb + 3)) 0 0 n) ∧ M1 (mb + 4) = (va_cpy (M (mo + 4)) (M (mb + 4)) 0 0 n) ∧ M1 (mb + 5) = (va_cpy (M (mo + 5)) (M (mb + 5)) 0 0 n) ∧ Fr (mb + 1) (mb + 6) M M1) := by
  refine cm_startV (by decide +kernel) (Nat.le_of_ble_eq_true rfl) ?_
  intro p e s m below meth c ls S hr hlocks hw hl
  have hl : lv_has ls 2 [(0, .ref (ad (mb + 1))), (1, .ref (ad (mo + 1)))] := hl
  have hlt_mb := hm.lt
  have hlt_mo := ho.lt
  refine lv_aload_n S.1 S.2.1 dX2_copyFrom_0 rfl (lv_at hl 0 rfl) ?_
  refine lv_aload_n S.1 S.2.1 dX2_copyFrom_1 rfl (lv_at hl 1 rfl) ?_
  refine m_getI (mo + 1) 0 S hw (by omega) ho.s1 rfl rfl in_X2 (by decide) wf_X2_9 dX2_copyFrom_2 ?_
  refine m_top (show M (mo + 1) 0 = nI n from hn) ?_
  refine n_putI (mb + 1) 0 S hw (by omega) hm.s1 rfl rfl in_X2 tyX2_ok nmX2 (by decide) rfl rfl wf_X2_9 dX2_copyFrom_5 (fun M1 H locs eM1 hw => ?_)
  refine lv_aload_n S.1 S.2.1 dX2_copyFrom_8 rfl (lv_at hl 1 rfl) ?_
  refine m_getR (mo + 1) 1 (mo + 2) S hw (by omega) ho.s1 rfl rfl in_X2 (by decide) wf_X2_15 dX2_copyFrom_9 ?_
  refine lv_iconst (v := nI 0) S.1 S.2.1 dX2_copyFrom_12 (by decide) ?_
  refine lv_aload_n S.1 S.2.1 dX2_copyFrom_13 rfl (lv_at hl 0 rfl) ?_
  refine m_getR (mb + 1) 1 (mb + 2) S hw (by omega) hm.s1 rfl rfl in_X2 (by decide) wf_X2_15 dX2_copyFrom_14 ?_
  refine lv_iconst (v := nI 0) S.1 S.2.1 dX2_copyFrom_17 (by decide) ?_
  refine lv_aload_n S.1 S.2.1 dX2_copyFrom_18 rfl (lv_at hl 0 rfl) ?_
  refine m_getI (mb + 1) 0 S hw (by omega) hm.s1 rfl rfl in_X2 (by decide) wf_X2_9 dX2_copyFrom_19 ?_
  have hq2 : M1 (mb + 1) = upd (M (mb + 1)) 0 (nI n) := by rw [eM1, va_up_self]
  refine m_top (show M1 (mb + 1) 0 = (upd (M (mb + 1)) 0 (nI n)) 0 from congrFun hq2 0) ?_
  refine m_top (show (upd (M (mb + 1)) 0 (nI n)) 0 = nI n from pk_us) ?_
  refine n_cpy (mo + 2) (mb + 2) 0 0 n S hl.1 wm_X2_32 hw (by omega) (by omega) ho.s2 hm.s2 (by decide) (by decide) rfl rfl rfl (by omega) (by omega) (Nat.le_of_ble_eq_true rfl) (Nat.le_of_ble_eq_true rfl) dX2_copyFrom_22 (fun M3 H locs eM3 hw => ?_)
  refine lv_aload_n S.1 S.2.1 dX2_copyFrom_25 rfl (lv_at hl 1 rfl) ?_
  refine m_getR (mo + 1) 2 (mo + 3) S hw (by omega) ho.s1 rfl rfl in_X2 (by decide) wf_X2_19 dX2_copyFrom_26 ?_
  refine lv_iconst (v := nI 0) S.1 S.2.1 dX2_copyFrom_29 (by decide) ?_
  refine lv_aload_n S.1 S.2.1 dX2_copyFrom_30 rfl (lv_at hl 0 rfl) ?_
  refine m_getR (mb + 1) 2 (mb + 3) S hw (by omega) hm.s1 rfl rfl in_X2 (by decide) wf_X2_19 dX2_copyFrom_31 ?_
  refine lv_iconst (v := nI 0) S.1 S.2.1 dX2_copyFrom_34 (by decide) ?_
  refine lv_aload_n S.1 S.2.1 dX2_copyFrom_35 rfl (lv_at hl 0 rfl) ?_
  refine m_getI (mb + 1) 0 S hw (by omega) hm.s1 rfl rfl in_X2 (by decide) wf_X2_9 dX2_copyFrom_36 ?_
  have hq4 : M3 (mb + 1) = upd (M (mb + 1)) 0 (nI n) := by rw [eM3, va_up_ne _ _ (by omega), hq2]
  refine m_top (show M3 (mb + 1) 0 = (upd (M (mb + 1)) 0 (nI n)) 0 from congrFun hq4 0) ?_
  refine m_top (show (upd (M (mb + 1)) 0 (nI n)) 0 = nI n from pk_us) ?_
  refine n_cpy (mo + 3) (mb + 3) 0 0 n S hl.1 wm_X2_32 hw (by omega) (by omega) ho.s3 hm.s3 (by decide) (by decide) rfl rfl rfl (by omega) (by omega) (Nat.le_of_ble_eq_true rfl) (Nat.le_of_ble_eq_true rfl) dX2_copyFrom_39 (fun M5 H locs eM5 hw => ?_)
  refine lv_aload_n S.1 S.2.1 dX2_copyFrom_42 rfl (lv_at hl 1 rfl) ?_
  refine m_getR (mo + 1) 3 (mo + 4) S hw (by omega) ho.s1 rfl rfl in_X2 (by decide) wf_X2_22 dX2_copyFrom_43 ?_
  refine lv_iconst (v := nI 0) S.1 S.2.1 dX2_copyFrom_46 (by decide) ?_
  refine lv_aload_n S.1 S.2.1 dX2_copyFrom_47 rfl (lv_at hl 0 rfl) ?_
  refine m_getR (mb + 1) 3 (mb + 4) S hw (by omega) hm.s1 rfl rfl in_X2 (by decide) wf_X2_22 dX2_copyFrom_48 ?_
  refine lv_iconst (v := nI 0) S.1 S.2.1 dX2_copyFrom_51 (by decide) ?_
  refine lv_aload_n S.1 S.2.1 dX2_copyFrom_52 rfl (lv_at hl 0 rfl) ?_
  refine m_getI (mb + 1) 0 S hw (by omega) hm.s1 rfl rfl in_X2 (by decide) wf_X2_9 dX2_copyFrom_53 ?_
  have hq6 : M5 (mb + 1) = upd (M (mb + 1)) 0 (nI n) := by rw [eM5, va_up_ne _ _ (by omega), hq4]
  refine m_top (show M5 (mb + 1) 0 = (upd (M (mb + 1)) 0 (nI n)) 0 from congrFun hq6 0) ?_
  refine m_top (show (upd (M (mb + 1)) 0 (nI n)) 0 = nI n from pk_us) ?_
  refine n_cpy (mo + 4) (mb + 4) 0 0 n S hl.1 wm_X2_32 hw (by omega) (by omega) ho.s4 hm.s4 (by decide) (by decide) rfl rfl rfl (by omega) (by omega) (Nat.le_of_ble_eq_true rfl) (Nat.le_of_ble_eq_true rfl) dX2_copyFrom_56 (fun M7 H locs eM7 hw => ?_)
  refine lv_aload_n S.1 S.2.1 dX2_copyFrom_59 rfl (lv_at hl 1 rfl) ?_
  refine m_getR (mo + 1) 4 (mo + 5) S hw (by omega) ho.s1 rfl rfl in_X2 (by decide) wf_X2_25 dX2_copyFrom_60 ?_
  refine lv_iconst (v := nI 0) S.1 S.2.1 dX2_copyFrom_63 (by decide) ?_
  refine lv_aload_n S.1 S.2.1 dX2_copyFrom_64 rfl (lv_at hl 0 rfl) ?_
  refine m_getR (mb + 1) 4 (mb + 5) S hw (by omega) hm.s1 rfl rfl in_X2 (by decide) wf_X2_25 dX2_copyFrom_65 ?_
  refine lv_iconst (v := nI 0) S.1 S.2.1 dX2_copyFrom_68 (by decide) ?_
  refine lv_aload_n S.1 S.2.1 dX2_copyFrom_69 rfl (lv_at hl 0 rfl) ?_
  refine m_getI (mb + 1) 0 S hw (by omega) hm.s1 rfl rfl in_X2 (by decide) wf_X2_9 dX2_copyFrom_70 ?_
  have hq8 : M7 (mb + 1) = upd (M (mb + 1)) 0 (nI n) := by rw [eM7, va_up_ne _ _ (by omega), hq6]
  refine m_top (show M7 (mb + 1) 0 = (upd (M (mb + 1)) 0 (nI n)) 0 from congrFun hq8 0) ?_
  refine m_top (show (upd (M (mb + 1)) 0 (nI n)) 0 = nI n from pk_us) ?_
  refine n_cpy (mo + 5) (mb + 5) 0 0 n S hl.1 wm_X2_32 hw (by omega) (by omega) ho.s5 hm.s5 (by decide) (by decide) rfl rfl rfl (by omega) (by omega) (Nat.le_of_ble_eq_true rfl) (Nat.le_of_ble_eq_true rfl) dX2_copyFrom_73 (fun M9 H locs eM9 hw => ?_)
  have hq10 : M9 (mb + 1) = upd (M (mb + 1)) 0 (nI n) := by rw [eM9, va_up_ne _ _ (by omega), hq8]
  have hq11 : M1 (mb + 2) = M (mb + 2) := by rw [eM1, va_up_ne _ _ (by omega)]
  have hq12 : M1 (mo + 2) = M (mo + 2) := by rw [eM1, va_up_ne _ _ (by omega)]
  have hq13 : M3 (mb + 2) = va_cpy (M (mo + 2)) (M (mb + 2)) 0 0 n := by rw [eM3, va_up_self, hq12, hq11]
  have hq14 : M5 (mb + 2) = va_cpy (M (mo + 2)) (M (mb + 2)) 0 0 n := by rw [eM5, va_up_ne _ _ (by omega), hq13]
  have hq15 : M7 (mb + 2) = va_cpy (M (mo + 2)) (M (mb + 2)) 0 0 n := by rw [eM7, va_up_ne _ _ (by omega), hq14]
  have hq16 : M9 (mb + 2) = va_cpy (M (mo + 2)) (M (mb + 2)) 0 0 n := by rw [eM9, va_up_ne _ _ (by omega), hq15]
  have hq17 : M1 (mb + 3) = M (mb + 3) := by rw [eM1, va_up_ne _ _ (by omega)]
  have hq18 : M3 (mb + 3) = M (mb + 3) := by rw [eM3, va_up_ne _ _ (by omega), hq17]
  have hq19 : M1 (mo + 3) = M (mo + 3) := by rw [eM1, va_up_ne _ _ (by omega)]
  have hq20 : M3 (mo + 3) = M (mo + 3) := by rw [eM3, va_up_ne _ _ (by omega), hq19]
  have hq21 : M5 (mb + 3) = va_cpy (M (mo + 3)) (M (mb + 3)) 0 0 n := by rw [eM5, va_up_self, hq20, hq18]
  have hq22 : M7 (mb + 3) = va_cpy (M (mo + 3)) (M (mb + 3)) 0 0 n := by rw [eM7, va_up_ne _ _ (by omega), hq21]
  have hq23 : M9 (mb + 3) = va_cpy (M (mo + 3)) (M (mb + 3)) 0 0 n := by rw [eM9, va_up_ne _ _ (by omega), hq22]
  have hq24 : M1 (mb + 4) = M (mb + 4) := by rw [eM1, va_up_ne _ _ (by omega)]
  have hq25 : M3 (mb + 4) = M (mb + 4) := by rw [eM3, va_up_ne _ _ (by omega), hq24]
  have hq26 : M5 (mb + 4) = M (mb + 4) := by rw [eM5, va_up_ne _ _ (by omega), hq25]
  have hq27 : M1 (mo + 4) = M (mo + 4) := by rw [eM1, va_up_ne _ _ (by omega)]
  have hq28 : M3 (mo + 4) = M (mo + 4) := by rw [eM3, va_up_ne _ _ (by omega), hq27]
  have hq29 : M5 (mo + 4) = M (mo + 4) := by rw [eM5, va_up_ne _ _ (by omega), hq28]
  have hq30 : M7 (mb + 4) = va_cpy (M (mo + 4)) (M (mb + 4)) 0 0 n := by rw [eM7, va_up_self, hq29, hq26]
  have hq31 : M9 (mb + 4) = va_cpy (M (mo + 4)) (M (mb + 4)) 0 0 n := by rw [eM9, va_up_ne _ _ (by omega), hq30]
  have hq32 : M1 (mb + 5) = M (mb + 5) := by rw [eM1, va_up_ne _ _ (by omega)]
  have hq33 : M3 (mb + 5) = M (mb + 5) := by rw [eM3, va_up_ne _ _ (by omega), hq32]
  have hq34 : M5 (mb + 5) = M (mb + 5) := by rw [eM5, va_up_ne _ _ (by omega), hq33]
  have hq35 : M7 (mb + 5) = M (mb + 5) := by rw [eM7, va_up_ne _ _ (by omega), hq34]
  have hq36 : M1 (mo + 5) = M (mo + 5) := by rw [eM1, va_up_ne _ _ (by omega)]
  have hq37 : M3 (mo + 5) = M (mo + 5) := by rw [eM3, va_up_ne _ _ (by omega), hq36]
  have hq38 : M5 (mo + 5) = M (mo + 5) := by rw [eM5, va_up_ne _ _ (by omega), hq37]
  have hq39 : M7 (mo + 5) = M (mo + 5) := by rw [eM7, va_up_ne _ _ (by omega), hq38]
  have hq40 : M9 (mb + 5) = va_cpy (M (mo + 5)) (M (mb + 5)) 0 0 n := by rw [eM9, va_up_self, hq39, hq35]
  exact m_retv S hr hlocks hw dX2_copyFrom_76 ⟨hq10, hq16, hq23, hq31, hq40, (by rw [eM9]; exact Fr.up (by rw [eM7]; exact Fr.up (by rw [eM5]; exact Fr.up (by rw [eM3]; exact Fr.up (by rw [eM1]; exact Fr.up Fr.rf (by omega) (by omega)) (by omega) (by omega)) (by omega) (by omega)) (by omega) (by omega)) (by omega) (by omega))⟩

set_option maxHeartbeats 4000000 in
set_option maxRecDepth 100000 in
/-- Pipe.moveOn -/
theorem c_X2_moveOn (l : Launch) (G : GT) (N K : Nat) (ad : Nat → Nat) (M : Mem) (mb : Nat) (hm : IsM N K mb) (a b : Nat) (hab : a ≤ b) (hb : b < 120) : CmV l G N K ad yX2_moveOn cX2_moveOn 4 1 26 [.ref (ad (mb + 1)), .int (nI a), .int (nI b)] M (fun M1 => M1 (mb + 1) = (M (mb + 1)) ∧ M1 (mb + 2) = (va_cpy (M (mb + 2)) (M (mb + 2)) a (a + 1) (b - a)) ∧ M1 (mb + 3) = (va_cpy (M (mb + 3)) (M (mb + 3)) a (a + 1) (b - a)) ∧ M1 (mb + 4) = (va_cpy (M (mb + 4)) (M (mb + 4)) a (a + 1) (b - a)) ∧ M1 (mb + 5) = (va_cpy (M (mb + 5)) (M (mb + 5)) a (a + 1) (b - a)) ∧ Fr (mb + 1) (mb + 6) M M1) := by
  refine cm_startV (by decide +kernel) (Nat.le_of_ble_eq_true rfl) ?_
  intro p e s m below meth c ls S hr hlocks hw hl
  have hl : lv_has ls 4 [(0, .ref (ad (mb + 1))), (1, .int (nI a)), (2, .int (nI b))] := hl
  have hlt_mb := hm.lt
  refine lv_iload_n S.1 S.2.1 dX2_moveOn_0 rfl (lv_at hl 2 rfl) ?_
  refine lv_iload_n S.1 S.2.1 dX2_moveOn_1 rfl (lv_at hl 1 rfl) ?_
  refine lv_isub S.1 S.2.1 dX2_moveOn_2 ?_
  refine m_top (show (nI b) - (nI a) = nI (b - a) from pk_sub hab) ?_
  refine lv_istore_n (lv' := [(3, .int (nI (b - a))), (0, .ref (ad (mb + 1))), (1, .int (nI a)), (2, .int (nI b))]) S.1 S.2.1 dX2_moveOn_3 rfl hl (by decide) rfl (fun ls hl => ?_)
  refine lv_aload_n S.1 S.2.1 dX2_moveOn_4 rfl (lv_at hl 1 rfl) ?_
  refine m_getR (mb + 1) 1 (mb + 2) S hw (by omega) hm.s1 rfl rfl in_X2 (by decide) wf_X2_15 dX2_moveOn_5 ?_
  refine lv_iload_n S.1 S.2.1 dX2_moveOn_8 rfl (lv_at hl 2 rfl) ?_
  refine lv_aload_n S.1 S.2.1 dX2_moveOn_9 rfl (lv_at hl 1 rfl) ?_
  refine m_getR (mb + 1) 1 (mb + 2) S hw (by omega) hm.s1 rfl rfl in_X2 (by decide) wf_X2_15 dX2_moveOn_10 ?_
  refine lv_iload_n S.1 S.2.1 dX2_moveOn_13 rfl (lv_at hl 2 rfl) ?_
  refine lv_iconst (v := nI 1) S.1 S.2.1 dX2_moveOn_14 (by decide) ?_
  refine lv_iadd S.1 S.2.1 dX2_moveOn_15 ?_
  refine m_top (show (nI a) + (nI 1) = nI (a + 1) from nI_add _ _) ?_
  refine lv_iload_n S.1 S.2.1 dX2_moveOn_16 rfl (lv_at hl 0 rfl) ?_
  refine n_cpy (mb + 2) (mb + 2) a (a + 1) (b - a) S hl.1 wm_X2_32 hw (by omega) (by omega) hm.s2 hm.s2 (by decide) (by decide) rfl rfl rfl (by omega) (by omega) (Nat.le_of_ble_eq_true rfl) (Nat.le_of_ble_eq_true rfl) dX2_moveOn_17 (fun M1 H locs eM1 hw => ?_)
  refine lv_aload_n S.1 S.2.1 dX2_moveOn_20 rfl (lv_at hl 1 rfl) ?_
  refine m_getR (mb + 1) 2 (mb + 3) S hw (by omega) hm.s1 rfl rfl in_X2 (by decide) wf_X2_19 dX2_moveOn_21 ?_
  refine lv_iload_n S.1 S.2.1 dX2_moveOn_24 rfl (lv_at hl 2 rfl) ?_
  refine lv_aload_n S.1 S.2.1 dX2_moveOn_25 rfl (lv_at hl 1 rfl) ?_
  refine m_getR (mb + 1) 2 (mb + 3) S hw (by omega) hm.s1 rfl rfl in_X2 (by decide) wf_X2_19 dX2_moveOn_26 ?_
  refine lv_iload_n S.1 S.2.1 dX2_moveOn_29 rfl (lv_at hl 2 rfl) ?_
  refine lv_iconst (v := nI 1) S.1 S.2.1 dX2_moveOn_30 (by decide) ?_
  refine lv_iadd S.1 S.2.1 dX2_moveOn_31 ?_
  refine m_top (show (nI a) + (nI 1) = nI (a + 1) from nI_add _ _) ?_
  refine lv_iload_n S.1 S.2.1 dX2_moveOn_32 rfl (lv_at hl 0 rfl) ?_
  refine n_cpy (mb + 3) (mb + 3) a (a + 1) (b - a) S hl.1 wm_X2_32 hw (by omega) (by omega) hm.s3 hm.s3 (by decide) (by decide) rfl rfl rfl (by omega) (by omega) (Nat.le_of_ble_eq_true rfl) (Nat.le_of_ble_eq_true rfl) dX2_moveOn_33 (fun M2 H locs eM2 hw => ?_)
  refine lv_aload_n S.1 S.2.1 dX2_moveOn_36 rfl (lv_at hl 1 rfl) ?_
  refine m_getR (mb + 1) 3 (mb + 4) S hw (by omega) hm.s1 rfl rfl in_X2 (by decide) wf_X2_22 dX2_moveOn_37 ?_
  refine lv_iload_n S.1 S.2.1 dX2_moveOn_40 rfl (lv_at hl 2 rfl) ?_
  refine lv_aload_n S.1 S.2.1 dX2_moveOn_41 rfl (lv_at hl 1 rfl) ?_
  refine m_getR (mb + 1) 3 (mb + 4) S hw (by omega) hm.s1 rfl rfl in_X2 (by decide) wf_X2_22 dX2_moveOn_42 ?_
  refine lv_iload_n S.1 S.2.1 dX2_moveOn_45 rfl (lv_at hl 2 rfl) ?_
  refine lv_iconst (v := nI 1) S.1 S.2.1 dX2_moveOn_46 (by decide) ?_
  refine lv_iadd S.1 S.2.1 dX2_moveOn_47 ?_
  refine m_top (show (nI a) + (nI 1) = nI (a + 1) from nI_add _ _) ?_
  refine lv_iload_n S.1 S.2.1 dX2_moveOn_48 rfl (lv_at hl 0 rfl) ?_
  refine n_cpy (mb + 4) (mb + 4) a (a + 1) (b - a) S hl.1 wm_X2_32 hw (by omega) (by omega) hm.s4 hm.s4 (by decide) (by decide) rfl rfl rfl (by omega) (by omega) (Nat.le_of_ble_eq_true rfl) (Nat.le_of_ble_eq_true rfl) dX2_moveOn_49 (fun M3 H locs eM3 hw => ?_)
  refine lv_aload_n S.1 S.2.1 dX2_moveOn_52 rfl (lv_at hl 1 rfl) ?_
  refine m_getR (mb + 1) 4 (mb + 5) S hw (by omega) hm.s1 rfl rfl in_X2 (by decide) wf_X2_25 dX2_moveOn_53 ?_
  refine lv_iload_n S.1 S.2.1 dX2_moveOn_56 rfl (lv_at hl 2 rfl) ?_
  refine lv_aload_n S.1 S.2.1 dX2_moveOn_57 rfl (lv_at hl 1 rfl) ?_
  refine m_getR (mb + 1) 4 (mb + 5) S hw (by omega) hm.s1 rfl rfl in_X2 (by decide) wf_X2_25 dX2_moveOn_58 ?_
  refine lv_iload_n S.1 S.2.1 dX2_moveOn_61 rfl (lv_at hl 2 rfl) ?_
  refine lv_iconst (v := nI 1) S.1 S.2.1 dX2_moveOn_62 (by decide) ?_
  refine lv_iadd S.1 S.2.1 dX2_moveOn_63 ?_
  refine m_top (show (nI a) + (nI 1) = nI (a + 1) from nI_add _ _) ?_
  refine lv_iload_n S.1 S.2.1 dX2_moveOn_64 rfl (lv_at hl 0 rfl) ?_
  refine n_cpy (mb + 5) (mb + 5) a (a + 1) (b - a) S hl.1 wm_X2_32 hw (by omega) (by omega) hm.s5 hm.s5 (by decide) (by decide) rfl rfl rfl (by omega) (by omega) (Nat.le_of_ble_eq_true rfl) (Nat.le_of_ble_eq_true rfl) dX2_moveOn_65 (fun M4 H locs eM4 hw => ?_)
  have hq5 : M1 (mb + 1) = M (mb + 1) := by rw [eM1, va_up_ne _ _ (by omega)]
  have hq6 : M2 (mb + 1) = M (mb + 1) := by rw [eM2, va_up_ne _ _ (by omega), hq5]
  have hq7 : M3 (mb + 1) = M (mb + 1) := by rw [eM3, va_up_ne _ _ (by omega), hq6]
  have hq8 : M4 (mb + 1) = M (mb + 1) := by rw [eM4, va_up_ne _ _ (by omega), hq7]
  have hq9 : M1 (mb + 2) = va_cpy (M (mb + 2)) (M (mb + 2)) a (a + 1) (b - a) := by rw [eM1, va_up_self]
  have hq10 : M2 (mb + 2) = va_cpy (M (mb + 2)) (M (mb + 2)) a (a + 1) (b - a) := by rw [eM2, va_up_ne _ _ (by omega), hq9]
  have hq11 : M3 (mb + 2) = va_cpy (M (mb + 2)) (M (mb + 2)) a (a + 1) (b - a) := by rw [eM3, va_up_ne _ _ (by omega), hq10]
  have hq12 : M4 (mb + 2) = va_cpy (M (mb + 2)) (M (mb + 2)) a (a + 1) (b - a) := by rw [eM4, va_up_ne _ _ (by omega), hq11]
  have hq13 : M1 (mb + 3) = M (mb + 3) := by rw [eM1, va_up_ne _ _ (by omega)]
  have hq14 : M2 (mb + 3) = va_cpy (M (mb + 3)) (M (mb + 3)) a (a + 1) (b - a) := by rw [eM2, va_up_self, hq13]
  have hq15 : M3 (mb + 3) = va_cpy (M (mb + 3)) (M (mb + 3)) a (a + 1) (b - a) := by rw [eM3, va_up_ne _ _ (by omega), hq14]
  have hq16 : M4 (mb + 3) = va_cpy (M (mb + 3)) (M (mb + 3)) a (a + 1) (b - a) := by rw [eM4, va_up_ne _ _ (by omega), hq15]
  have hq17 : M1 (mb + 4) = M (mb + 4) := by rw [eM1, va_up_ne _ _ (by omega)]
  have hq18 : M2 (mb + 4) = M (mb + 4) := by rw [eM2, va_up_ne _ _ (by omega), hq17]
  have hq19 : M3 (mb + 4) = va_cpy (M (mb + 4)) (M (mb + 4)) a (a + 1) (b - a) := by rw [eM3, va_up_self, hq18]
  have hq20 : M4 (mb + 4) = va_cpy (M (mb + 4)) (M (mb + 4)) a (a + 1) (b - a) := by rw [eM4, va_up_ne _ _ (by omega), hq19]
  have hq21 : M1 (mb + 5) = M (mb + 5) := by rw [eM1, va_up_ne _ _ (by omega)]
  have hq22 : M2 (mb + 5) = M (mb + 5) := by rw [eM2, va_up_ne _ _ (by omega), hq21]
  have hq23 : M3 (mb + 5) = M (mb + 5) := by rw [eM3, va_up_ne _ _ (by omega), hq22]
  have hq24 : M4 (mb + 5) = va_cpy (M (mb + 5)) (M (mb + 5)) a (a + 1) (b - a) := by rw [eM4, va_up_self, hq23]
  exact m_retv S hr hlocks hw dX2_moveOn_68 ⟨hq8, hq12, hq16, hq20, hq24, (by rw [eM4]; exact Fr.up (by rw [eM3]; exact Fr.up (by rw [eM2]; exact Fr.up (by rw [eM1]; exact Fr.up Fr.rf (by omega) (by omega)) (by omega) (by omega)) (by omega) (by omega)) (by omega) (by omega))⟩

theorem fill_0 {f : Nat → Int32} {x : Int32} : f = fun j => if j < 0 then x else f j := by funext j; simp
theorem fill_s {f : Nat → Int32} {x : Int32} {i : Nat} : upd (fun j => if j < i then x else f j) i x = fun j => if j < i + 1 then x else f j := by
  funext j
  by_cases hj : j = i
  · subst hj; simp [upd]
  · simp only [upd, if_neg hj, show (j < i + 1) = (j < i) by simp; omega]

set_option maxHeartbeats 4000000 in
set_option maxRecDepth 100000 in
/-- Pipe.renew -/
theorem c_X2_renew (l : Launch) (G : GT) (N K : Nat) (ad : Nat → Nat) (M : Mem) (mb : Nat) (hm : IsM N K mb) (n : Nat) (hn1 : n ≤ 120) : CmV l G N K ad yX2_renew cX2_renew 3 1 23 [.ref (ad (mb + 1)), .int (nI n)] M (fun M1 => M1 (mb + 1) = (upd (M (mb + 1)) 0 (nI n)) ∧ M1 (mb + 2) = (fun j => if j < n then nI 0 else M (mb + 2) j) ∧ M1 (mb + 3) = (fun j => if j < n then nI 0 else M (mb + 3) j) ∧ M1 (mb + 4) = (fun j => if j < n then (-1) else M (mb + 4) j) ∧ M1 (mb + 5) = (fun j => if j < n then nI 0 else M (mb + 5) j) ∧ Fr (mb + 1) (mb + 6) M M1) := by
  refine cm_startV (by decide +kernel) (Nat.le_of_ble_eq_true rfl) ?_
  intro p e s m below meth c ls S hr hlocks hw hl
  have hl : lv_has ls 3 [(0, .ref (ad (mb + 1))), (1, .int (nI n))] := hl
  have hlt_mb := hm.lt
  generalize hAv : List.toArray ([.ref (ad (mb + 1)), .int (nI n)] : List Value) = A at S ⊢
  have loop : ∀ (n' : Nat) (i : Nat), i + n' = n → ∀ (M2 : Mem) (H : Heap) (locs : List Loc) (ls : Array Slot), (M2 (mb + 1) = (upd (M (mb + 1)) 0 (nI n)) ∧ M2 (mb + 2) = (fun j => if j < i then nI 0 else M (mb + 2) j) ∧ M2 (mb + 3) = (fun j => if j < i then nI 0 else M (mb + 3) j) ∧ M2 (mb + 4) = (fun j => if j < i then (-1) else M (mb + 4) j) ∧ M2 (mb + 5) = (fun j => if j < i then nI 0 else M (mb + 5) j) ∧ Fr (mb + 1) (mb + 6) M M2) → Wd G N K ad M2 s H locs → lv_has ls 3 [(0, .ref (ad (mb + 1))), (1, .int (nI n)), (2, .int (nI i))] → W p l e { frames := 1, cells := 0, slots := 0, locals := 23 } s m A below meth c H locs 0 0 (QmV G N K ad (fun M1 => M1 (mb + 1) = (upd (M (mb + 1)) 0 (nI n)) ∧ M1 (mb + 2) = (fun j => if j < n then nI 0 else M (mb + 2) j) ∧ M1 (mb + 3) = (fun j => if j < n then nI 0 else M (mb + 3) j) ∧ M1 (mb + 4) = (fun j => if j < n then (-1) else M (mb + 4) j) ∧ M1 (mb + 5) = (fun j => if j < n then nI 0 else M (mb + 5) j) ∧ Fr (mb + 1) (mb + 6) M M1) below A s) (F0 m 7 ls []) := by
    intro n'
    induction n' with
    | zero =>
      intro i hi M2 H locs ls hv hw hl
      have hsz : M2 (mb + 1) 0 = nI n := by rw [hv.1]; exact pk_us
      refine lv_iload_n S.1 S.2.1 dX2_renew_7 rfl (lv_at hl 2 rfl) ?_
      refine lv_aload_n S.1 S.2.1 dX2_renew_8 rfl (lv_at hl 0 rfl) ?_
      refine m_getI (mb + 1) 0 S hw (by omega) hm.s1 rfl rfl in_X2 (by decide) wf_X2_9 dX2_renew_9 ?_
      refine m_top (show M2 (mb + 1) 0 = nI n from hsz) ?_
      refine n_ge (tgt := 28) S (by omega) (by omega) dX2_renew_12 (by decide) (fun c1 => ?_) (fun c1 => absurd c1 (by omega))
      exact m_retv S hr hlocks hw dX2_renew_28 (by rw [show i = n by omega] at hv; exact hv)
    | succ n' ih =>
      intro i hi M2 H locs ls hv hw hl
      have hsz : M2 (mb + 1) 0 = nI n := by rw [hv.1]; exact pk_us
      refine lv_iload_n S.1 S.2.1 dX2_renew_7 rfl (lv_at hl 2 rfl) ?_
      refine lv_aload_n S.1 S.2.1 dX2_renew_8 rfl (lv_at hl 0 rfl) ?_
      refine m_getI (mb + 1) 0 S hw (by omega) hm.s1 rfl rfl in_X2 (by decide) wf_X2_9 dX2_renew_9 ?_
      refine m_top (show M2 (mb + 1) 0 = nI n from hsz) ?_
      refine n_ge (tgt := 28) S (by omega) (by omega) dX2_renew_12 (by decide) (fun c11 => absurd c11 (by omega)) (fun c11 => ?_)
      refine lv_aload_n S.1 S.2.1 dX2_renew_15 rfl (lv_at hl 0 rfl) ?_
      refine lv_iload_n S.1 S.2.1 dX2_renew_16 rfl (lv_at hl 2 rfl) ?_
      refine lv_iconst (v := nI 0) S.1 S.2.1 dX2_renew_17 (by decide) ?_
      refine lv_iconst (v := nI 0) S.1 S.2.1 dX2_renew_18 (by decide) ?_
      refine m_VV (As := [.int (nI i), .int (nI 0), .int (nI 0)]) (rest := []) (mb + 1) S hw (by omega) hm.s1 rfl (c_X2_put l G N K ad M2 mb hm i (by omega) (nI 0) (nI 0)) mf_X2_put wm_X2_28 ⟨by decide, by decide⟩ ⟨Nat.le_refl _, Nat.le_refl _⟩ hl.1 rfl (Nat.le_of_ble_eq_true rfl) dX2_renew_19 (fun M12 H locs hp12 hw => ?_)
      have emb_1_12 : M12 (mb + 1) = (M2 (mb + 1)) := hp12.1
      have emb_2_12 : M12 (mb + 2) = (upd (M2 (mb + 2)) i (nI 0)) := hp12.2.1
      have emb_3_12 : M12 (mb + 3) = (upd (M2 (mb + 3)) i (nI 0)) := hp12.2.2.1
      have emb_4_12 : M12 (mb + 4) = (upd (M2 (mb + 4)) i (-1)) := hp12.2.2.2.1
      have emb_5_12 : M12 (mb + 5) = (upd (M2 (mb + 5)) i (nI 0)) := hp12.2.2.2.2.1
      have fr12 : Fr (mb + 1) (mb + 6) M2 M12 := hp12.2.2.2.2.2
      refine lv_iinc (v := nI (i + 1)) (lv' := [(2, .int (nI (i + 1))), (0, .ref (ad (mb + 1))), (1, .int (nI n))]) S.1 S.2.1 dX2_renew_22 hl (k := 2) rfl (iinc1 _) (by decide) rfl (fun ls hl => ?_)
      refine lv_goto (tgt := 7) S.1 S.2.1 dX2_renew_25 (by decide) ?_
      obtain ⟨i1, i2, i3, i4, i5, ifr⟩ := hv
      refine ih (i + 1) (by omega) _ _ _ ls ⟨emb_1_12.trans i1, by rw [emb_2_12, i2]; exact fill_s, by rw [emb_3_12, i3]; exact fill_s, by rw [emb_4_12, i4]; exact fill_s, by rw [emb_5_12, i5]; exact fill_s, Fr.tr ifr fr12 (by omega) (by omega)⟩ hw (lv_sub hl [1, 2, 0] rfl)
  refine lv_aload_n S.1 S.2.1 dX2_renew_0 rfl (lv_at hl 0 rfl) ?_
  refine lv_iload_n S.1 S.2.1 dX2_renew_1 rfl (lv_at hl 1 rfl) ?_
  refine n_putI (mb + 1) 0 S hw (by omega) hm.s1 rfl rfl in_X2 tyX2_ok nmX2 (by decide) rfl rfl wf_X2_9 dX2_renew_2 (fun M1 H locs eM1 hw => ?_)
  refine lv_iconst (v := nI 0) S.1 S.2.1 dX2_renew_5 (by decide) ?_
  refine lv_istore_n (lv' := [(2, .int (nI 0)), (0, .ref (ad (mb + 1))), (1, .int (nI n))]) S.1 S.2.1 dX2_renew_6 rfl hl (by decide) rfl (fun ls hl => ?_)
  have hq2 : M1 (mb + 1) = upd (M (mb + 1)) 0 (nI n) := by rw [eM1, va_up_self]
  have hq3 : M1 (mb + 2) = M (mb + 2) := by rw [eM1, va_up_ne _ _ (by omega)]
  have hq4 : M1 (mb + 3) = M (mb + 3) := by rw [eM1, va_up_ne _ _ (by omega)]
  have hq5 : M1 (mb + 4) = M (mb + 4) := by rw [eM1, va_up_ne _ _ (by omega)]
  have hq6 : M1 (mb + 5) = M (mb + 5) := by rw [eM1, va_up_ne _ _ (by omega)]
  exact loop n 0 (by omega) _ _ _ ls ⟨hq2, by rw [hq3]; exact fill_0, by rw [hq4]; exact fill_0, by rw [hq5]; exact fill_0, by rw [hq6]; exact fill_0, (by rw [eM1]; exact Fr.up Fr.rf (by omega) (by omega))⟩ hw (lv_sub hl [1, 2, 0] rfl)

set_option maxHeartbeats 4000000 in
set_option maxRecDepth 100000 in
/-- Pipe.hindIsNext -/
theorem c_X2_hindIsNext (l : Launch) (G : GT) (N K : Nat) (ad : Nat → Nat) (M : Mem) (mb : Nat) (hm : IsM N K mb) (h f : Nat) (hf : h < f) (hf1 : f < 120) : CrI l G N K ad yX2_hindIsNext cX2_hindIsNext 4 .boolean 0 0 [.ref (ad (mb + 1)), .int (nI h), .int (nI f)] M (b01 (evB h f)) := by
  refine cm_startI (by decide +kernel) (Nat.le_of_ble_eq_true rfl) ?_
  intro p e s m below meth c ls S hr hlocks hw hl
  have hl : lv_has ls 4 [(0, .ref (ad (mb + 1))), (1, .int (nI h)), (2, .int (nI f))] := hl
  have hlt_mb := hm.lt
  refine lv_iload_n S.1 S.2.1 dX2_hindIsNext_0 rfl (lv_at hl 2 rfl) ?_
  refine lv_iload_n S.1 S.2.1 dX2_hindIsNext_1 rfl (lv_at hl 1 rfl) ?_
  refine lv_isub S.1 S.2.1 dX2_hindIsNext_2 ?_
  refine m_top (show (nI f) - (nI h) = nI (f - h) from pk_sub (by omega)) ?_
  refine lv_iconst (v := nI 1) S.1 S.2.1 dX2_hindIsNext_3 (by decide) ?_
  refine lv_isub S.1 S.2.1 dX2_hindIsNext_4 ?_
  refine m_top (show (nI (f - h)) - (nI 1) = nI ((f - h) - 1) from pk_sub (a := f - h) (b := 1) (by omega)) ?_
  refine lv_istore_n (lv' := [(3, .int (nI ((f - h) - 1))), (0, .ref (ad (mb + 1))), (1, .int (nI h)), (2, .int (nI f))]) S.1 S.2.1 dX2_hindIsNext_5 rfl hl (by decide) rfl (fun ls hl => ?_)
  refine lv_iload_n S.1 S.2.1 dX2_hindIsNext_6 rfl (lv_at hl 0 rfl) ?_
  refine lv_iconst (v := nI 2) S.1 S.2.1 dX2_hindIsNext_7 (by decide) ?_
  refine lv_irem S.1 S.2.1 dX2_hindIsNext_8 (by decide) ?_
  refine lv_if_ne (tgt := 16) S.1 S.2.1 dX2_hindIsNext_9 (by decide) (fun c1 => ?_) (fun c1 => ?_)
  · refine lv_iconst (v := nI 0) S.1 S.2.1 dX2_hindIsNext_16 (by decide) ?_
    exact m_retz S hr hlocks hw dX2_hindIsNext_17 rfl ⟨b0_f (evB_f hf (by omega) c1), rfl⟩
  · refine lv_iconst (v := nI 1) S.1 S.2.1 dX2_hindIsNext_12 (by decide) ?_
    refine lv_goto (tgt := 17) S.1 S.2.1 dX2_hindIsNext_13 (by decide) ?_
    exact m_retz S hr hlocks hw dX2_hindIsNext_17 rfl ⟨b1_t (evB_t hf (by omega) c1), rfl⟩

theorem farS_0 {mx kd w : Nat → Int32} {h f : Nat} (c : mx (kx kd h f) = 0) : farS mx kd w h f = (none, w) := by rw [farS, if_pos c]
theorem farS_1 {mx kd w w1 : Nat → Int32} {h f : Nat} (c : ¬ mx (kx kd h f) = 0) (e : (if w f < mx (kx kd h f) then upd w f (w f + nI 1) else w) = w1) (c2 : ¬ mx (kx kd h f) ≤ w1 f) : farS mx kd w h f = (none, w1) := by
  have e' : (if w f < mx (kx kd h f) then upd w f (w f + 1) else w) = w1 := e
  rw [farS, if_neg c, e', if_pos (Int32.not_le.mp c2)]
theorem farS_2 {mx kd w w1 : Nat → Int32} {h f : Nat} (c : ¬ mx (kx kd h f) = 0) (e : (if w f < mx (kx kd h f) then upd w f (w f + nI 1) else w) = w1) (c2 : mx (kx kd h f) ≤ w1 f) : farS mx kd w h f = (if evB h f then (if h = 0 then none else some (h - 1)) else some (f + 1), w1) := by
  have e' : (if w f < mx (kx kd h f) then upd w f (w f + 1) else w) = w1 := e
  rw [farS, if_neg c, e', if_neg (Int32.not_lt.mpr c2)]
theorem farS_lt {mx kd w : Nat → Int32} {h f g : Nat} (hf : (farS mx kd w h f).1 = some g) (hh : h < f) : g ≤ f + 1 := by
  unfold farS at hf
  by_cases c1 : mx (kx kd h f) = 0
  · rw [if_pos c1] at hf; cases hf
  · rw [if_neg c1] at hf
    by_cases c2 : (if w f < mx (kx kd h f) then upd w f (w f + 1) else w) f < mx (kx kd h f)
    · rw [if_pos c2] at hf; cases hf
    · rw [if_neg c2] at hf
      by_cases c3 : evB h f = true
      · simp only [c3, if_true] at hf
        by_cases c4 : h = 0
        · rw [if_pos c4] at hf; cases hf
        · rw [if_neg c4] at hf
          have := Option.some.inj hf
          omega
      · simp only [c3] at hf
        have := Option.some.inj hf
        omega
theorem enc_pred (h : Nat) : nI h - nI 1 = enc (if h = 0 then none else some (h - 1)) := by
  cases h with
  | zero => exact m1_eq
  | succ h => rw [if_neg (by omega)]; exact predN h

set_option maxHeartbeats 4000000 in
set_option maxRecDepth 100000 in
/-- Pipe.farSide -/
theorem c_X2_farSide (l : Launch) (G : GT) (N K : Nat) (ad : Nat → Nat) (M : Mem) (h34 : 34 ≤ N) (mb : Nat) (hm : IsM N K mb) (h f a b : Nat) (hf : h < f) (hf1 : f < 120) (hkx : kx (M (mb + 3)) h f = a * 8 + b) (ha : M (mb + 3) h = nI a) (hb : M (mb + 3) f = nI b) (ha8 : a < 8) (hb8 : b < 8) : CmI l G N K ad yX2_farSide cX2_farSide 5 .int 1 23 [.ref (ad (mb + 1)), .int (nI h), .int (nI f), .ref (ad 1)] M (fun r M1 => r = enc (farS (M 3) (M (mb + 3)) (M (mb + 5)) h f).1 ∧ M1 (mb + 5) = (farS (M 3) (M (mb + 3)) (M (mb + 5)) h f).2 ∧ M1 (mb + 1) = M (mb + 1) ∧ M1 (mb + 2) = M (mb + 2) ∧ M1 (mb + 3) = M (mb + 3) ∧ M1 (mb + 4) = M (mb + 4) ∧ Fr (mb + 1) (mb + 6) M M1) := by
  refine cm_startI (by decide +kernel) (Nat.le_of_ble_eq_true rfl) ?_
  intro p e s m below meth c ls S hr hlocks hw hl
  have hl : lv_has ls 5 [(0, .ref (ad (mb + 1))), (1, .int (nI h)), (2, .int (nI f)), (3, .ref (ad 1))] := hl
  have hlt_mb := hm.lt
  refine lv_aload_n S.1 S.2.1 dX2_farSide_0 rfl (lv_at hl 3 rfl) ?_
  refine lv_aload_n S.1 S.2.1 dX2_farSide_1 rfl (lv_at hl 0 rfl) ?_
  refine m_getR (mb + 1) 2 (mb + 3) S hw (by omega) hm.s1 rfl rfl in_X2 (by decide) wf_X2_19 dX2_farSide_2 ?_
  refine lv_iload_n S.1 S.2.1 dX2_farSide_5 rfl (lv_at hl 1 rfl) ?_
  refine m_ald (mb + 3) h S hw (by omega) hm.s3 (by decide) (by omega) rfl dX2_farSide_6 ?_
  refine m_top (show M (mb + 3) h = nI a from ha) ?_
  refine lv_aload_n S.1 S.2.1 dX2_farSide_7 rfl (lv_at hl 0 rfl) ?_
  refine m_getR (mb + 1) 2 (mb + 3) S hw (by omega) hm.s1 rfl rfl in_X2 (by decide) wf_X2_19 dX2_farSide_8 ?_
  refine lv_iload_n S.1 S.2.1 dX2_farSide_11 rfl (lv_at hl 2 rfl) ?_
  refine m_ald (mb + 3) f S hw (by omega) hm.s3 (by decide) (by omega) rfl dX2_farSide_12 ?_
  refine m_top (show M (mb + 3) f = nI b from hb) ?_
  refine r_VI (As := [.int (nI a), .int (nI b)]) (rest := []) 1 S hw (by omega) rfl rfl (c_X5_mixOf l G N K ad M h34 a b (by omega) (by omega)) mf_X5_mixOf wm_X2_56 ⟨by decide, by decide⟩ ⟨Nat.le_refl _, Nat.le_refl _⟩ hl.1 rfl (Nat.le_of_ble_eq_true rfl) dX2_farSide_13 (fun H locs hw => ?_)
  refine lv_istore (lv' := [(4, .int (M 3 (a * 8 + b))), (0, .ref (ad (mb + 1))), (1, .int (nI h)), (2, .int (nI f)), (3, .ref (ad 1))]) S.1 S.2.1 dX2_farSide_16 hl (by decide) rfl (fun ls hl => ?_)
  refine lv_iload S.1 S.2.1 dX2_farSide_18 (lv_at hl 0 rfl) ?_
  refine lv_if_ne (tgt := 25) S.1 S.2.1 dX2_farSide_20 (by decide) (fun c1 => ?_) (fun c1 => ?_)
  · refine lv_aload_n S.1 S.2.1 dX2_farSide_25 rfl (lv_at hl 1 rfl) ?_
    refine m_getR (mb + 1) 4 (mb + 5) S hw (by omega) hm.s1 rfl rfl in_X2 (by decide) wf_X2_25 dX2_farSide_26 ?_
    refine lv_iload_n S.1 S.2.1 dX2_farSide_29 rfl (lv_at hl 3 rfl) ?_
    refine m_ald (mb + 5) f S hw (by omega) hm.s5 (by decide) (by omega) rfl dX2_farSide_30 ?_
    refine lv_iload S.1 S.2.1 dX2_farSide_31 (lv_at hl 0 rfl) ?_
    refine lv_icmp_ge (tgt := 46) S.1 S.2.1 dX2_farSide_33 (by decide) (fun c2 => ?_) (fun c2 => ?_)
    · refine lv_aload_n S.1 S.2.1 dX2_farSide_46 rfl (lv_at hl 1 rfl) ?_
      refine m_getR (mb + 1) 4 (mb + 5) S hw (by omega) hm.s1 rfl rfl in_X2 (by decide) wf_X2_25 dX2_farSide_47 ?_
      refine lv_iload_n S.1 S.2.1 dX2_farSide_50 rfl (lv_at hl 3 rfl) ?_
      refine m_ald (mb + 5) f S hw (by omega) hm.s5 (by decide) (by omega) rfl dX2_farSide_51 ?_
      refine lv_iload S.1 S.2.1 dX2_farSide_52 (lv_at hl 0 rfl) ?_
      refine lv_icmp_ge (tgt := 59) S.1 S.2.1 dX2_farSide_54 (by decide) (fun c3 => ?_) (fun c3 => ?_)
      · refine lv_aload_n S.1 S.2.1 dX2_farSide_59 rfl (lv_at hl 1 rfl) ?_
        refine lv_iload_n S.1 S.2.1 dX2_farSide_60 rfl (lv_at hl 2 rfl) ?_
        refine lv_iload_n S.1 S.2.1 dX2_farSide_61 rfl (lv_at hl 3 rfl) ?_
        refine r_VI (As := [.int (nI h), .int (nI f)]) (rest := []) (mb + 1) S hw (by omega) hm.s1 rfl (c_X2_hindIsNext l G N K ad M mb hm h f (by omega) (by omega)) mf_X2_hindIsNext wm_X2_62 ⟨by decide, by decide⟩ ⟨Nat.le_refl _, Nat.le_refl _⟩ hl.1 rfl (Nat.le_of_ble_eq_true rfl) dX2_farSide_62 (fun H locs hw => ?_)
        refine b_eq (tgt := 74) S dX2_farSide_65 (by decide) (fun c4 => ?_) (fun c4 => ?_)
        · refine lv_iload_n S.1 S.2.1 dX2_farSide_74 rfl (lv_at hl 3 rfl) ?_
          refine lv_iconst (v := nI 1) S.1 S.2.1 dX2_farSide_75 (by decide) ?_
          refine lv_iadd S.1 S.2.1 dX2_farSide_76 ?_
          refine m_top (show (nI f) + (nI 1) = nI (f + 1) from nI_add _ _) ?_
          have hF : farS (M 3) (M (mb + 3)) (M (mb + 5)) h f = _ := farS_2 (w1 := M (mb + 5)) (by rw [hkx]; exact c1) (by rw [hkx]; exact if_neg (Int32.not_lt.mpr c2)) (by rw [hkx]; exact c3)
          exact m_reti S hr hlocks hw dX2_farSide_77 ⟨by rw [hF, c4]; rfl, by rw [hF]; first | done | exact rfl, rfl, rfl, rfl, rfl, Fr.rf⟩
        · refine lv_iload_n S.1 S.2.1 dX2_farSide_68 rfl (lv_at hl 2 rfl) ?_
          refine lv_iconst (v := nI 1) S.1 S.2.1 dX2_farSide_69 (by decide) ?_
          refine lv_isub S.1 S.2.1 dX2_farSide_70 ?_
          refine lv_goto (tgt := 77) S.1 S.2.1 dX2_farSide_71 (by decide) ?_
          have hF : farS (M 3) (M (mb + 3)) (M (mb + 5)) h f = _ := farS_2 (w1 := M (mb + 5)) (by rw [hkx]; exact c1) (by rw [hkx]; exact if_neg (Int32.not_lt.mpr c2)) (by rw [hkx]; exact c3)
          exact m_reti S hr hlocks hw dX2_farSide_77 ⟨by rw [hF, c4]; exact enc_pred h, by rw [hF]; first | done | exact rfl, rfl, rfl, rfl, rfl, Fr.rf⟩
      · refine lv_iconst (v := (-1)) S.1 S.2.1 dX2_farSide_57 (by decide) ?_
        have hF : farS (M 3) (M (mb + 3)) (M (mb + 5)) h f = _ := farS_1 (w1 := M (mb + 5)) (by rw [hkx]; exact c1) (by rw [hkx]; exact if_neg (Int32.not_lt.mpr c2)) (by rw [hkx]; exact c3)
        exact m_reti S hr hlocks hw dX2_farSide_58 ⟨by rw [hF]; rfl, by rw [hF]; first | done | exact rfl, rfl, rfl, rfl, rfl, Fr.rf⟩
    · refine lv_aload_n S.1 S.2.1 dX2_farSide_36 rfl (lv_at hl 1 rfl) ?_
      refine m_getR (mb + 1) 4 (mb + 5) S hw (by omega) hm.s1 rfl rfl in_X2 (by decide) wf_X2_25 dX2_farSide_37 ?_
      refine lv_iload_n S.1 S.2.1 dX2_farSide_40 rfl (lv_at hl 3 rfl) ?_
      refine lv_dup2_11 S.1 S.2.1 dX2_farSide_41 rfl rfl ?_
      refine m_ald (mb + 5) f S hw (by omega) hm.s5 (by decide) (by omega) rfl dX2_farSide_42 ?_
      refine lv_iconst (v := nI 1) S.1 S.2.1 dX2_farSide_43 (by decide) ?_
      refine lv_iadd S.1 S.2.1 dX2_farSide_44 ?_
      refine n_ast (mb + 5) f S hw (by omega) hm.s5 (by decide) (by omega) rfl dX2_farSide_45 (fun M5 H locs eM5 hw => ?_)
      refine lv_aload_n S.1 S.2.1 dX2_farSide_46 rfl (lv_at hl 1 rfl) ?_
      refine m_getR (mb + 1) 4 (mb + 5) S hw (by omega) hm.s1 rfl rfl in_X2 (by decide) wf_X2_25 dX2_farSide_47 ?_
      refine lv_iload_n S.1 S.2.1 dX2_farSide_50 rfl (lv_at hl 3 rfl) ?_
      refine m_ald (mb + 5) f S hw (by omega) hm.s5 (by decide) (by omega) rfl dX2_farSide_51 ?_
      have hq6 : M5 (mb + 5) = upd (M (mb + 5)) f ((M (mb + 5) f) + (nI 1)) := by rw [eM5, va_up_self]
      refine m_top (show M5 (mb + 5) f = (upd (M (mb + 5)) f ((M (mb + 5) f) + (nI 1))) f from congrFun hq6 f) ?_
      refine m_top (show (upd (M (mb + 5)) f ((M (mb + 5) f) + (nI 1))) f = (M (mb + 5) f) + (nI 1) from pk_us) ?_
      refine lv_iload S.1 S.2.1 dX2_farSide_52 (lv_at hl 0 rfl) ?_
      refine lv_icmp_ge (tgt := 59) S.1 S.2.1 dX2_farSide_54 (by decide) (fun c7 => ?_) (fun c7 => ?_)
      · refine lv_aload_n S.1 S.2.1 dX2_farSide_59 rfl (lv_at hl 1 rfl) ?_
        refine lv_iload_n S.1 S.2.1 dX2_farSide_60 rfl (lv_at hl 2 rfl) ?_
        refine lv_iload_n S.1 S.2.1 dX2_farSide_61 rfl (lv_at hl 3 rfl) ?_
        refine r_VI (As := [.int (nI h), .int (nI f)]) (rest := []) (mb + 1) S hw (by omega) hm.s1 rfl (c_X2_hindIsNext l G N K ad M5 mb hm h f (by omega) (by omega)) mf_X2_hindIsNext wm_X2_62 ⟨by decide, by decide⟩ ⟨Nat.le_refl _, Nat.le_refl _⟩ hl.1 rfl (Nat.le_of_ble_eq_true rfl) dX2_farSide_62 (fun H locs hw => ?_)
        refine b_eq (tgt := 74) S dX2_farSide_65 (by decide) (fun c8 => ?_) (fun c8 => ?_)
        · refine lv_iload_n S.1 S.2.1 dX2_farSide_74 rfl (lv_at hl 3 rfl) ?_
          refine lv_iconst (v := nI 1) S.1 S.2.1 dX2_farSide_75 (by decide) ?_
          refine lv_iadd S.1 S.2.1 dX2_farSide_76 ?_
          refine m_top (show (nI f) + (nI 1) = nI (f + 1) from nI_add _ _) ?_
          have hq9 : M5 (mb + 1) = M (mb + 1) := by rw [eM5, va_up_ne _ _ (by omega)]
          have hq10 : M5 (mb + 2) = M (mb + 2) := by rw [eM5, va_up_ne _ _ (by omega)]
          have hq11 : M5 (mb + 3) = M (mb + 3) := by rw [eM5, va_up_ne _ _ (by omega)]
          have hq12 : M5 (mb + 4) = M (mb + 4) := by rw [eM5, va_up_ne _ _ (by omega)]
          have hF : farS (M 3) (M (mb + 3)) (M (mb + 5)) h f = _ := farS_2 (w1 := upd (M (mb + 5)) f ((M (mb + 5) f) + (nI 1))) (by rw [hkx]; exact c1) (by rw [hkx]; exact if_pos (Int32.not_le.mp c2)) (by rw [hkx]; rw [pk_us]; exact c7)
          exact m_reti S hr hlocks hw dX2_farSide_77 ⟨by rw [hF, c8]; rfl, by rw [hF]; first | done | exact hq6, hq9, hq10, hq11, hq12, (by rw [eM5]; exact Fr.up Fr.rf (by omega) (by omega))⟩
        · refine lv_iload_n S.1 S.2.1 dX2_farSide_68 rfl (lv_at hl 2 rfl) ?_
          refine lv_iconst (v := nI 1) S.1 S.2.1 dX2_farSide_69 (by decide) ?_
          refine lv_isub S.1 S.2.1 dX2_farSide_70 ?_
          refine lv_goto (tgt := 77) S.1 S.2.1 dX2_farSide_71 (by decide) ?_
          have hq13 : M5 (mb + 1) = M (mb + 1) := by rw [eM5, va_up_ne _ _ (by omega)]
          have hq14 : M5 (mb + 2) = M (mb + 2) := by rw [eM5, va_up_ne _ _ (by omega)]
          have hq15 : M5 (mb + 3) = M (mb + 3) := by rw [eM5, va_up_ne _ _ (by omega)]
          have hq16 : M5 (mb + 4) = M (mb + 4) := by rw [eM5, va_up_ne _ _ (by omega)]
          have hF : farS (M 3) (M (mb + 3)) (M (mb + 5)) h f = _ := farS_2 (w1 := upd (M (mb + 5)) f ((M (mb + 5) f) + (nI 1))) (by rw [hkx]; exact c1) (by rw [hkx]; exact if_pos (Int32.not_le.mp c2)) (by rw [hkx]; rw [pk_us]; exact c7)
          exact m_reti S hr hlocks hw dX2_farSide_77 ⟨by rw [hF, c8]; exact enc_pred h, by rw [hF]; first | done | exact hq6, hq13, hq14, hq15, hq16, (by rw [eM5]; exact Fr.up Fr.rf (by omega) (by omega))⟩
      · refine lv_iconst (v := (-1)) S.1 S.2.1 dX2_farSide_57 (by decide) ?_
        have hq17 : M5 (mb + 1) = M (mb + 1) := by rw [eM5, va_up_ne _ _ (by omega)]
        have hq18 : M5 (mb + 2) = M (mb + 2) := by rw [eM5, va_up_ne _ _ (by omega)]
        have hq19 : M5 (mb + 3) = M (mb + 3) := by rw [eM5, va_up_ne _ _ (by omega)]
        have hq20 : M5 (mb + 4) = M (mb + 4) := by rw [eM5, va_up_ne _ _ (by omega)]
        have hF : farS (M 3) (M (mb + 3)) (M (mb + 5)) h f = _ := farS_1 (w1 := upd (M (mb + 5)) f ((M (mb + 5) f) + (nI 1))) (by rw [hkx]; exact c1) (by rw [hkx]; exact if_pos (Int32.not_le.mp c2)) (by rw [hkx]; rw [pk_us]; exact c7)
        exact m_reti S hr hlocks hw dX2_farSide_58 ⟨by rw [hF]; rfl, by rw [hF]; first | done | exact hq6, hq17, hq18, hq19, hq20, (by rw [eM5]; exact Fr.up Fr.rf (by omega) (by omega))⟩
  · refine lv_iconst (v := (-1)) S.1 S.2.1 dX2_farSide_23 (by decide) ?_
    have hF : farS (M 3) (M (mb + 3)) (M (mb + 5)) h f = _ := farS_0 (by rw [hkx]; exact c1)
    exact m_reti S hr hlocks hw dX2_farSide_24 ⟨by rw [hF]; rfl, by rw [hF]; first | done | exact rfl, rfl, rfl, rfl, rfl, Fr.rf⟩

theorem mo_n1 {b kd fo w : Nat → Int32} {h f g : Nat} (hp : pureB fo g = false) : mixOneS b (kd, fo, w) h f g = (kd, fo, w) := by simp [mixOneS, hp]
theorem mo_n2 {b kd fo w : Nat → Int32} {h f g : Nat} (he : evB h f = true) (hb : ¬ b g = b h) : mixOneS b (kd, fo, w) h f g = (kd, fo, w) := by simp [mixOneS, he, eqB_f hb]
theorem mo_n3 {b kd fo w : Nat → Int32} {h f g : Nat} (he : evB h f = false) (hb : ¬ b g = b f) : mixOneS b (kd, fo, w) h f g = (kd, fo, w) := by simp [mixOneS, he, eqB_f hb]
theorem mo_y1 {b kd fo w : Nat → Int32} {h f g : Nat} (he : evB h f = true) (hp : pureB fo g = true) (hb : b g = b h) : mixOneS b (kd, fo, w) h f g = (upd kd h (kd h), upd fo h (kd f), upd w f (nI 0)) := by
  simp only [mixOneS, he, hp, eqB_t hb, if_true, Bool.and_self]
  rfl
theorem mo_y2 {b kd fo w : Nat → Int32} {h f g : Nat} (he : evB h f = false) (hp : pureB fo g = true) (hb : b g = b f) : mixOneS b (kd, fo, w) h f g = (upd kd f (kd h), upd fo f (kd f), upd w g (nI 0)) := by
  simp only [mixOneS, he, hp, eqB_t hb, if_true, Bool.and_self, Bool.false_eq_true, if_false]
  rfl
theorem kin_mo {b kd fo w : Nat → Int32} {h f g n : Nat} (hk : Kin kd n) (hh : h < n) : Kin (mixOneS b (kd, fo, w) h f g).1 n := by
  intro j hj
  unfold mixOneS
  by_cases c : (pureB fo g && eqB (b g) (b (if evB h f then h else f))) = true
  · rw [if_pos c]
    show inB (upd kd (if evB h f then h else f) (kd h) j) 8 = true
    by_cases e : j = (if evB h f then h else f)
    · rw [← e, pk_us]
      exact hk h hh
    · rw [pk_un e]
      exact hk j hj
  · rw [if_neg c]
    exact hk j hj

set_option maxHeartbeats 4000000 in
set_option maxRecDepth 100000 in
/-- Pipe.mixOne -/
theorem c_X2_mixOne (l : Launch) (G : GT) (N K : Nat) (ad : Nat → Nat) (M : Mem) (mb : Nat) (hm : IsM N K mb) (h f g : Nat) (hf : h < f) (hf1 : f < 120) (hg : g < 120) : CmV l G N K ad yX2_mixOne cX2_mixOne 8 1 23 [.ref (ad (mb + 1)), .int (nI h), .int (nI f), .int (nI g)] M (fun M1 => M1 (mb + 3) = ((mixOneS (M (mb + 2)) (M (mb + 3), M (mb + 4), M (mb + 5)) h f g).1) ∧ M1 (mb + 4) = ((mixOneS (M (mb + 2)) (M (mb + 3), M (mb + 4), M (mb + 5)) h f g).2.1) ∧ M1 (mb + 5) = ((mixOneS (M (mb + 2)) (M (mb + 3), M (mb + 4), M (mb + 5)) h f g).2.2) ∧ M1 (mb + 1) = (M (mb + 1)) ∧ M1 (mb + 2) = (M (mb + 2)) ∧ Fr (mb + 1) (mb + 6) M M1) := by
  refine cm_startV (by decide +kernel) (Nat.le_of_ble_eq_true rfl) ?_
  intro p e s m below meth c ls S hr hlocks hw hl
  have hl : lv_has ls 8 [(0, .ref (ad (mb + 1))), (1, .int (nI h)), (2, .int (nI f)), (3, .int (nI g))] := hl
  have hlt_mb := hm.lt
  refine lv_aload_n S.1 S.2.1 dX2_mixOne_0 rfl (lv_at hl 0 rfl) ?_
  refine lv_iload_n S.1 S.2.1 dX2_mixOne_1 rfl (lv_at hl 1 rfl) ?_
  refine lv_iload_n S.1 S.2.1 dX2_mixOne_2 rfl (lv_at hl 2 rfl) ?_
  refine r_VI (As := [.int (nI h), .int (nI f)]) (rest := []) (mb + 1) S hw (by omega) hm.s1 rfl (c_X2_hindIsNext l G N K ad M mb hm h f (by omega) (by omega)) mf_X2_hindIsNext wm_X2_62 ⟨by decide, by decide⟩ ⟨Nat.le_refl _, Nat.le_refl _⟩ hl.1 rfl (Nat.le_of_ble_eq_true rfl) dX2_mixOne_3 (fun H locs hw => ?_)
  refine lv_istore (lv' := [(4, .int (b01 (evB h f))), (0, .ref (ad (mb + 1))), (1, .int (nI h)), (2, .int (nI f)), (3, .int (nI g))]) S.1 S.2.1 dX2_mixOne_6 hl (by decide) rfl (fun ls hl => ?_)
  refine lv_iload S.1 S.2.1 dX2_mixOne_8 (lv_at hl 0 rfl) ?_
  refine b_eq (tgt := 17) S dX2_mixOne_10 (by decide) (fun c1 => ?_) (fun c1 => ?_)
  · refine lv_iload_n S.1 S.2.1 dX2_mixOne_17 rfl (lv_at hl 3 rfl) ?_
    refine lv_istore (lv' := [(5, .int (nI f)), (4, .int (b01 (evB h f))), (0, .ref (ad (mb + 1))), (1, .int (nI h)), (2, .int (nI f)), (3, .int (nI g))]) S.1 S.2.1 dX2_mixOne_18 hl (by decide) rfl (fun ls hl => ?_)
    refine lv_aload_n S.1 S.2.1 dX2_mixOne_20 rfl (lv_at hl 2 rfl) ?_
    refine lv_iload_n S.1 S.2.1 dX2_mixOne_21 rfl (lv_at hl 5 rfl) ?_
    refine r_VI (As := [.int (nI g)]) (rest := []) (mb + 1) S hw (by omega) hm.s1 rfl (c_X2_isPure l G N K ad M mb hm g (by omega)) mf_X2_isPure wm_X2_38 ⟨by decide, by decide⟩ ⟨Nat.le_refl _, Nat.le_refl _⟩ hl.1 rfl (Nat.le_of_ble_eq_true rfl) dX2_mixOne_22 (fun H locs hw => ?_)
    refine b_eq (tgt := 44) S dX2_mixOne_25 (by decide) (fun c2 => ?_) (fun c2 => ?_)
    · have hF : mixOneS (M (mb + 2)) (M (mb + 3), M (mb + 4), M (mb + 5)) h f g = _ := mo_n1 c2
      exact m_retv S hr hlocks hw dX2_mixOne_44 ⟨by rw [hF]; first | done | exact rfl, by rw [hF]; first | done | exact rfl, by rw [hF]; first | done | exact rfl, rfl, rfl, Fr.rf⟩
    · refine lv_aload_n S.1 S.2.1 dX2_mixOne_28 rfl (lv_at hl 2 rfl) ?_
      refine m_getR (mb + 1) 1 (mb + 2) S hw (by omega) hm.s1 rfl rfl in_X2 (by decide) wf_X2_15 dX2_mixOne_29 ?_
      refine lv_iload_n S.1 S.2.1 dX2_mixOne_32 rfl (lv_at hl 5 rfl) ?_
      refine m_ald (mb + 2) g S hw (by omega) hm.s2 (by decide) (by omega) rfl dX2_mixOne_33 ?_
      refine lv_aload_n S.1 S.2.1 dX2_mixOne_34 rfl (lv_at hl 2 rfl) ?_
      refine m_getR (mb + 1) 1 (mb + 2) S hw (by omega) hm.s1 rfl rfl in_X2 (by decide) wf_X2_15 dX2_mixOne_35 ?_
      refine lv_iload S.1 S.2.1 dX2_mixOne_38 (lv_at hl 0 rfl) ?_
      refine m_ald (mb + 2) f S hw (by omega) hm.s2 (by decide) (by omega) rfl dX2_mixOne_40 ?_
      refine lv_icmp_eq (tgt := 45) S.1 S.2.1 dX2_mixOne_41 (by decide) (fun c3 => ?_) (fun c3 => ?_)
      · refine lv_aload_n S.1 S.2.1 dX2_mixOne_45 rfl (lv_at hl 2 rfl) ?_
        refine m_getR (mb + 1) 2 (mb + 3) S hw (by omega) hm.s1 rfl rfl in_X2 (by decide) wf_X2_19 dX2_mixOne_46 ?_
        refine lv_iload_n S.1 S.2.1 dX2_mixOne_49 rfl (lv_at hl 3 rfl) ?_
        refine m_ald (mb + 3) h S hw (by omega) hm.s3 (by decide) (by omega) rfl dX2_mixOne_50 ?_
        refine lv_istore (lv' := [(6, .int (M (mb + 3) h)), (5, .int (nI f)), (4, .int (b01 (evB h f))), (0, .ref (ad (mb + 1))), (1, .int (nI h)), (2, .int (nI f)), (3, .int (nI g))]) S.1 S.2.1 dX2_mixOne_51 hl (by decide) rfl (fun ls hl => ?_)
        refine lv_aload_n S.1 S.2.1 dX2_mixOne_53 rfl (lv_at hl 3 rfl) ?_
        refine m_getR (mb + 1) 2 (mb + 3) S hw (by omega) hm.s1 rfl rfl in_X2 (by decide) wf_X2_19 dX2_mixOne_54 ?_
        refine lv_iload_n S.1 S.2.1 dX2_mixOne_57 rfl (lv_at hl 5 rfl) ?_
        refine m_ald (mb + 3) f S hw (by omega) hm.s3 (by decide) (by omega) rfl dX2_mixOne_58 ?_
        refine lv_istore (lv' := [(7, .int (M (mb + 3) f)), (6, .int (M (mb + 3) h)), (5, .int (nI f)), (4, .int (b01 (evB h f))), (0, .ref (ad (mb + 1))), (1, .int (nI h)), (2, .int (nI f)), (3, .int (nI g))]) S.1 S.2.1 dX2_mixOne_59 hl (by decide) rfl (fun ls hl => ?_)
        refine lv_aload_n S.1 S.2.1 dX2_mixOne_61 rfl (lv_at hl 4 rfl) ?_
        refine m_getR (mb + 1) 2 (mb + 3) S hw (by omega) hm.s1 rfl rfl in_X2 (by decide) wf_X2_19 dX2_mixOne_62 ?_
        refine lv_iload S.1 S.2.1 dX2_mixOne_65 (lv_at hl 2 rfl) ?_
        refine lv_iload S.1 S.2.1 dX2_mixOne_67 (lv_at hl 1 rfl) ?_
        refine n_ast (mb + 3) f S hw (by omega) hm.s3 (by decide) (by omega) rfl dX2_mixOne_69 (fun M4 H locs eM4 hw => ?_)
        refine lv_aload_n S.1 S.2.1 dX2_mixOne_70 rfl (lv_at hl 4 rfl) ?_
        refine m_getR (mb + 1) 3 (mb + 4) S hw (by omega) hm.s1 rfl rfl in_X2 (by decide) wf_X2_22 dX2_mixOne_71 ?_
        refine lv_iload S.1 S.2.1 dX2_mixOne_74 (lv_at hl 2 rfl) ?_
        refine lv_iload S.1 S.2.1 dX2_mixOne_76 (lv_at hl 0 rfl) ?_
        refine n_ast (mb + 4) f S hw (by omega) hm.s4 (by decide) (by omega) rfl dX2_mixOne_78 (fun M5 H locs eM5 hw => ?_)
        refine lv_aload_n S.1 S.2.1 dX2_mixOne_79 rfl (lv_at hl 4 rfl) ?_
        refine m_getR (mb + 1) 4 (mb + 5) S hw (by omega) hm.s1 rfl rfl in_X2 (by decide) wf_X2_25 dX2_mixOne_80 ?_
        refine lv_iload S.1 S.2.1 dX2_mixOne_83 (lv_at hl 3 rfl) ?_
        refine b_eq (tgt := 92) S dX2_mixOne_85 (by decide) (fun c6 => ?_) (fun c6 => absurd c6 (by rw [c1]; decide))
        refine lv_iload_n S.1 S.2.1 dX2_mixOne_92 rfl (lv_at hl 7 rfl) ?_
        refine lv_iconst (v := nI 0) S.1 S.2.1 dX2_mixOne_93 (by decide) ?_
        refine n_ast (mb + 5) g S hw (by omega) hm.s5 (by decide) (by omega) rfl dX2_mixOne_94 (fun M7 H locs eM7 hw => ?_)
        have hq8 : M4 (mb + 3) = upd (M (mb + 3)) f (M (mb + 3) h) := by rw [eM4, va_up_self]
        have hq9 : M5 (mb + 3) = upd (M (mb + 3)) f (M (mb + 3) h) := by rw [eM5, va_up_ne _ _ (by omega), hq8]
        have hq10 : M7 (mb + 3) = upd (M (mb + 3)) f (M (mb + 3) h) := by rw [eM7, va_up_ne _ _ (by omega), hq9]
        have hq11 : M4 (mb + 4) = M (mb + 4) := by rw [eM4, va_up_ne _ _ (by omega)]
        have hq12 : M5 (mb + 4) = upd (M (mb + 4)) f (M (mb + 3) f) := by rw [eM5, va_up_self, hq11]
        have hq13 : M7 (mb + 4) = upd (M (mb + 4)) f (M (mb + 3) f) := by rw [eM7, va_up_ne _ _ (by omega), hq12]
        have hq14 : M4 (mb + 5) = M (mb + 5) := by rw [eM4, va_up_ne _ _ (by omega)]
        have hq15 : M5 (mb + 5) = M (mb + 5) := by rw [eM5, va_up_ne _ _ (by omega), hq14]
        have hq16 : M7 (mb + 5) = upd (M (mb + 5)) g (nI 0) := by rw [eM7, va_up_self, hq15]
        have hq17 : M4 (mb + 1) = M (mb + 1) := by rw [eM4, va_up_ne _ _ (by omega)]
        have hq18 : M5 (mb + 1) = M (mb + 1) := by rw [eM5, va_up_ne _ _ (by omega), hq17]
        have hq19 : M7 (mb + 1) = M (mb + 1) := by rw [eM7, va_up_ne _ _ (by omega), hq18]
        have hq20 : M4 (mb + 2) = M (mb + 2) := by rw [eM4, va_up_ne _ _ (by omega)]
        have hq21 : M5 (mb + 2) = M (mb + 2) := by rw [eM5, va_up_ne _ _ (by omega), hq20]
        have hq22 : M7 (mb + 2) = M (mb + 2) := by rw [eM7, va_up_ne _ _ (by omega), hq21]
        have hF : mixOneS (M (mb + 2)) (M (mb + 3), M (mb + 4), M (mb + 5)) h f g = _ := mo_y2 c1 c2 c3
        exact m_retv S hr hlocks hw dX2_mixOne_95 ⟨by rw [hF]; first | done | exact hq10, by rw [hF]; first | done | exact hq13, by rw [hF]; first | done | exact hq16, hq19, hq22, (by rw [eM7]; exact Fr.up (by rw [eM5]; exact Fr.up (by rw [eM4]; exact Fr.up Fr.rf (by omega) (by omega)) (by omega) (by omega)) (by omega) (by omega))⟩
      · have hF : mixOneS (M (mb + 2)) (M (mb + 3), M (mb + 4), M (mb + 5)) h f g = _ := mo_n3 c1 c3
        exact m_retv S hr hlocks hw dX2_mixOne_44 ⟨by rw [hF]; first | done | exact rfl, by rw [hF]; first | done | exact rfl, by rw [hF]; first | done | exact rfl, rfl, rfl, Fr.rf⟩
  · refine lv_iload_n S.1 S.2.1 dX2_mixOne_13 rfl (lv_at hl 2 rfl) ?_
    refine lv_goto (tgt := 18) S.1 S.2.1 dX2_mixOne_14 (by decide) ?_
    refine lv_istore (lv' := [(5, .int (nI h)), (4, .int (b01 (evB h f))), (0, .ref (ad (mb + 1))), (1, .int (nI h)), (2, .int (nI f)), (3, .int (nI g))]) S.1 S.2.1 dX2_mixOne_18 hl (by decide) rfl (fun ls hl => ?_)
    refine lv_aload_n S.1 S.2.1 dX2_mixOne_20 rfl (lv_at hl 2 rfl) ?_
    refine lv_iload_n S.1 S.2.1 dX2_mixOne_21 rfl (lv_at hl 5 rfl) ?_
    refine r_VI (As := [.int (nI g)]) (rest := []) (mb + 1) S hw (by omega) hm.s1 rfl (c_X2_isPure l G N K ad M mb hm g (by omega)) mf_X2_isPure wm_X2_38 ⟨by decide, by decide⟩ ⟨Nat.le_refl _, Nat.le_refl _⟩ hl.1 rfl (Nat.le_of_ble_eq_true rfl) dX2_mixOne_22 (fun H locs hw => ?_)
    refine b_eq (tgt := 44) S dX2_mixOne_25 (by decide) (fun c23 => ?_) (fun c23 => ?_)
    · have hF : mixOneS (M (mb + 2)) (M (mb + 3), M (mb + 4), M (mb + 5)) h f g = _ := mo_n1 c23
      exact m_retv S hr hlocks hw dX2_mixOne_44 ⟨by rw [hF]; first | done | exact rfl, by rw [hF]; first | done | exact rfl, by rw [hF]; first | done | exact rfl, rfl, rfl, Fr.rf⟩
    · refine lv_aload_n S.1 S.2.1 dX2_mixOne_28 rfl (lv_at hl 2 rfl) ?_
      refine m_getR (mb + 1) 1 (mb + 2) S hw (by omega) hm.s1 rfl rfl in_X2 (by decide) wf_X2_15 dX2_mixOne_29 ?_
      refine lv_iload_n S.1 S.2.1 dX2_mixOne_32 rfl (lv_at hl 5 rfl) ?_
      refine m_ald (mb + 2) g S hw (by omega) hm.s2 (by decide) (by omega) rfl dX2_mixOne_33 ?_
      refine lv_aload_n S.1 S.2.1 dX2_mixOne_34 rfl (lv_at hl 2 rfl) ?_
      refine m_getR (mb + 1) 1 (mb + 2) S hw (by omega) hm.s1 rfl rfl in_X2 (by decide) wf_X2_15 dX2_mixOne_35 ?_
      refine lv_iload S.1 S.2.1 dX2_mixOne_38 (lv_at hl 0 rfl) ?_
      refine m_ald (mb + 2) h S hw (by omega) hm.s2 (by decide) (by omega) rfl dX2_mixOne_40 ?_
      refine lv_icmp_eq (tgt := 45) S.1 S.2.1 dX2_mixOne_41 (by decide) (fun c24 => ?_) (fun c24 => ?_)
      · refine lv_aload_n S.1 S.2.1 dX2_mixOne_45 rfl (lv_at hl 2 rfl) ?_
        refine m_getR (mb + 1) 2 (mb + 3) S hw (by omega) hm.s1 rfl rfl in_X2 (by decide) wf_X2_19 dX2_mixOne_46 ?_
        refine lv_iload_n S.1 S.2.1 dX2_mixOne_49 rfl (lv_at hl 3 rfl) ?_
        refine m_ald (mb + 3) h S hw (by omega) hm.s3 (by decide) (by omega) rfl dX2_mixOne_50 ?_
        refine lv_istore (lv' := [(6, .int (M (mb + 3) h)), (5, .int (nI h)), (4, .int (b01 (evB h f))), (0, .ref (ad (mb + 1))), (1, .int (nI h)), (2, .int (nI f)), (3, .int (nI g))]) S.1 S.2.1 dX2_mixOne_51 hl (by decide) rfl (fun ls hl => ?_)
        refine lv_aload_n S.1 S.2.1 dX2_mixOne_53 rfl (lv_at hl 3 rfl) ?_
        refine m_getR (mb + 1) 2 (mb + 3) S hw (by omega) hm.s1 rfl rfl in_X2 (by decide) wf_X2_19 dX2_mixOne_54 ?_
        refine lv_iload_n S.1 S.2.1 dX2_mixOne_57 rfl (lv_at hl 5 rfl) ?_
        refine m_ald (mb + 3) f S hw (by omega) hm.s3 (by decide) (by omega) rfl dX2_mixOne_58 ?_
        refine lv_istore (lv' := [(7, .int (M (mb + 3) f)), (6, .int (M (mb + 3) h)), (5, .int (nI h)), (4, .int (b01 (evB h f))), (0, .ref (ad (mb + 1))), (1, .int (nI h)), (2, .int (nI f)), (3, .int (nI g))]) S.1 S.2.1 dX2_mixOne_59 hl (by decide) rfl (fun ls hl => ?_)
        refine lv_aload_n S.1 S.2.1 dX2_mixOne_61 rfl (lv_at hl 4 rfl) ?_
        refine m_getR (mb + 1) 2 (mb + 3) S hw (by omega) hm.s1 rfl rfl in_X2 (by decide) wf_X2_19 dX2_mixOne_62 ?_
        refine lv_iload S.1 S.2.1 dX2_mixOne_65 (lv_at hl 2 rfl) ?_
        refine lv_iload S.1 S.2.1 dX2_mixOne_67 (lv_at hl 1 rfl) ?_
        refine n_ast (mb + 3) h S hw (by omega) hm.s3 (by decide) (by omega) rfl dX2_mixOne_69 (fun M25 H locs eM25 hw => ?_)
        refine lv_aload_n S.1 S.2.1 dX2_mixOne_70 rfl (lv_at hl 4 rfl) ?_
        refine m_getR (mb + 1) 3 (mb + 4) S hw (by omega) hm.s1 rfl rfl in_X2 (by decide) wf_X2_22 dX2_mixOne_71 ?_
        refine lv_iload S.1 S.2.1 dX2_mixOne_74 (lv_at hl 2 rfl) ?_
        refine lv_iload S.1 S.2.1 dX2_mixOne_76 (lv_at hl 0 rfl) ?_
        refine n_ast (mb + 4) h S hw (by omega) hm.s4 (by decide) (by omega) rfl dX2_mixOne_78 (fun M26 H locs eM26 hw => ?_)
        refine lv_aload_n S.1 S.2.1 dX2_mixOne_79 rfl (lv_at hl 4 rfl) ?_
        refine m_getR (mb + 1) 4 (mb + 5) S hw (by omega) hm.s1 rfl rfl in_X2 (by decide) wf_X2_25 dX2_mixOne_80 ?_
        refine lv_iload S.1 S.2.1 dX2_mixOne_83 (lv_at hl 3 rfl) ?_
        refine b_eq (tgt := 92) S dX2_mixOne_85 (by decide) (fun c27 => absurd c27 (by rw [c1]; decide)) (fun c27 => ?_)
        refine lv_iload_n S.1 S.2.1 dX2_mixOne_88 rfl (lv_at hl 6 rfl) ?_
        refine lv_goto (tgt := 93) S.1 S.2.1 dX2_mixOne_89 (by decide) ?_
        refine lv_iconst (v := nI 0) S.1 S.2.1 dX2_mixOne_93 (by decide) ?_
        refine n_ast (mb + 5) f S hw (by omega) hm.s5 (by decide) (by omega) rfl dX2_mixOne_94 (fun M28 H locs eM28 hw => ?_)
        have hq29 : M25 (mb + 3) = upd (M (mb + 3)) h (M (mb + 3) h) := by rw [eM25, va_up_self]
        have hq30 : M26 (mb + 3) = upd (M (mb + 3)) h (M (mb + 3) h) := by rw [eM26, va_up_ne _ _ (by omega), hq29]
        have hq31 : M28 (mb + 3) = upd (M (mb + 3)) h (M (mb + 3) h) := by rw [eM28, va_up_ne _ _ (by omega), hq30]
        have hq32 : M25 (mb + 4) = M (mb + 4) := by rw [eM25, va_up_ne _ _ (by omega)]
        have hq33 : M26 (mb + 4) = upd (M (mb + 4)) h (M (mb + 3) f) := by rw [eM26, va_up_self, hq32]
        have hq34 : M28 (mb + 4) = upd (M (mb + 4)) h (M (mb + 3) f) := by rw [eM28, va_up_ne _ _ (by omega), hq33]
        have hq35 : M25 (mb + 5) = M (mb + 5) := by rw [eM25, va_up_ne _ _ (by omega)]
        have hq36 : M26 (mb + 5) = M (mb + 5) := by rw [eM26, va_up_ne _ _ (by omega), hq35]
        have hq37 : M28 (mb + 5) = upd (M (mb + 5)) f (nI 0) := by rw [eM28, va_up_self, hq36]
        have hq38 : M25 (mb + 1) = M (mb + 1) := by rw [eM25, va_up_ne _ _ (by omega)]
        have hq39 : M26 (mb + 1) = M (mb + 1) := by rw [eM26, va_up_ne _ _ (by omega), hq38]
        have hq40 : M28 (mb + 1) = M (mb + 1) := by rw [eM28, va_up_ne _ _ (by omega), hq39]
        have hq41 : M25 (mb + 2) = M (mb + 2) := by rw [eM25, va_up_ne _ _ (by omega)]
        have hq42 : M26 (mb + 2) = M (mb + 2) := by rw [eM26, va_up_ne _ _ (by omega), hq41]
        have hq43 : M28 (mb + 2) = M (mb + 2) := by rw [eM28, va_up_ne _ _ (by omega), hq42]
        have hF : mixOneS (M (mb + 2)) (M (mb + 3), M (mb + 4), M (mb + 5)) h f g = _ := mo_y1 c1 c23 c24
        exact m_retv S hr hlocks hw dX2_mixOne_95 ⟨by rw [hF]; first | done | exact hq31, by rw [hF]; first | done | exact hq34, by rw [hF]; first | done | exact hq37, hq40, hq43, (by rw [eM28]; exact Fr.up (by rw [eM26]; exact Fr.up (by rw [eM25]; exact Fr.up Fr.rf (by omega) (by omega)) (by omega) (by omega)) (by omega) (by omega))⟩
      · have hF : mixOneS (M (mb + 2)) (M (mb + 3), M (mb + 4), M (mb + 5)) h f g = _ := mo_n2 c1 c24
        exact m_retv S hr hlocks hw dX2_mixOne_44 ⟨by rw [hF]; first | done | exact rfl, by rw [hF]; first | done | exact rfl, by rw [hF]; first | done | exact rfl, rfl, rfl, Fr.rf⟩

set_option maxHeartbeats 4000000 in
set_option maxRecDepth 100000 in
/-- Pipe.clash -/
theorem c_X2_clash (l : Launch) (G : GT) (N K : Nat) (ad : Nat → Nat) (M : Mem) (h34 : 34 ≤ N) (mb : Nat) (hm : IsM N K mb) (n : Nat) (hn1 : n ≤ 120) (hki : Kin (M (mb + 3)) n) (hz : Z01 (M 2) 64) (oh og : Option Nat) (hoh : ∀ x, oh = some x → x < n) (hog : ∀ x, og = some x → x < n) : CrI l G N K ad yX2_clash cX2_clash 4 .boolean 1 22 [.ref (ad (mb + 1)), .int (enc oh), .int (enc og), .ref (ad 1)] M (b01 (clB (M 2) (M (mb + 3)) oh og)) := by
  refine cm_startI (by decide +kernel) (Nat.le_of_ble_eq_true rfl) ?_
  intro p e s m below meth c ls S hr hlocks hw hl
  have hl : lv_has ls 4 [(0, .ref (ad (mb + 1))), (1, .int (enc oh)), (2, .int (enc og)), (3, .ref (ad 1))] := hl
  have hlt_mb := hm.lt
  rcases opt_cases oh with rfl | ⟨x, rfl⟩ <;> rcases opt_cases og with rfl | ⟨y, rfl⟩
  · skip
    refine lv_iload_n S.1 S.2.1 dX2_clash_0 rfl (lv_at hl 1 rfl) ?_
    refine m_top (show enc none = (-1) from rfl) ?_
    refine lv_iconst (v := (-1)) S.1 S.2.1 dX2_clash_1 (by decide) ?_
    refine lv_icmp_eq (tgt := 33) S.1 S.2.1 dX2_clash_2 (by decide) (fun c1 => ?_) (fun c1 => absurd c1 (fun z => z rfl))
    refine lv_iconst (v := nI 0) S.1 S.2.1 dX2_clash_33 (by decide) ?_
    exact m_retz S hr hlocks hw dX2_clash_34 rfl ⟨b0_f clB_n1, rfl⟩
  · have hy := hog y rfl
    skip
    refine lv_iload_n S.1 S.2.1 dX2_clash_0 rfl (lv_at hl 1 rfl) ?_
    refine m_top (show enc none = (-1) from rfl) ?_
    refine lv_iconst (v := (-1)) S.1 S.2.1 dX2_clash_1 (by decide) ?_
    refine lv_icmp_eq (tgt := 33) S.1 S.2.1 dX2_clash_2 (by decide) (fun c2 => ?_) (fun c2 => absurd c2 (fun z => z rfl))
    refine lv_iconst (v := nI 0) S.1 S.2.1 dX2_clash_33 (by decide) ?_
    exact m_retz S hr hlocks hw dX2_clash_34 rfl ⟨b0_f clB_n1, rfl⟩
  · have hx := hoh x rfl
    refine lv_iload_n S.1 S.2.1 dX2_clash_0 rfl (lv_at hl 1 rfl) ?_
    refine m_top (show enc (some x) = nI x from rfl) ?_
    refine lv_iconst (v := (-1)) S.1 S.2.1 dX2_clash_1 (by decide) ?_
    refine lv_icmp_eq (tgt := 33) S.1 S.2.1 dX2_clash_2 (by decide) (fun c3 => absurd c3 (enc_ne (by omega))) (fun c3 => ?_)
    refine lv_iload_n S.1 S.2.1 dX2_clash_5 rfl (lv_at hl 2 rfl) ?_
    refine m_top (show enc none = (-1) from rfl) ?_
    refine lv_iconst (v := (-1)) S.1 S.2.1 dX2_clash_6 (by decide) ?_
    refine lv_icmp_eq (tgt := 33) S.1 S.2.1 dX2_clash_7 (by decide) (fun c4 => ?_) (fun c4 => absurd c4 (fun z => z rfl))
    refine lv_iconst (v := nI 0) S.1 S.2.1 dX2_clash_33 (by decide) ?_
    exact m_retz S hr hlocks hw dX2_clash_34 rfl ⟨b0_f clB_n2, rfl⟩
  · have hx := hoh x rfl
    have hy := hog y rfl
    obtain ⟨a, ha8, ha⟩ := inB_of (hki x hx) (by decide)
    obtain ⟨b, hb8, hb⟩ := inB_of (hki y hy) (by decide)
    refine lv_iload_n S.1 S.2.1 dX2_clash_0 rfl (lv_at hl 1 rfl) ?_
    refine m_top (show enc (some x) = nI x from rfl) ?_
    refine lv_iconst (v := (-1)) S.1 S.2.1 dX2_clash_1 (by decide) ?_
    refine lv_icmp_eq (tgt := 33) S.1 S.2.1 dX2_clash_2 (by decide) (fun c5 => absurd c5 (enc_ne (by omega))) (fun c5 => ?_)
    refine lv_iload_n S.1 S.2.1 dX2_clash_5 rfl (lv_at hl 2 rfl) ?_
    refine m_top (show enc (some y) = nI y from rfl) ?_
    refine lv_iconst (v := (-1)) S.1 S.2.1 dX2_clash_6 (by decide) ?_
    refine lv_icmp_eq (tgt := 33) S.1 S.2.1 dX2_clash_7 (by decide) (fun c6 => absurd c6 (enc_ne (by omega))) (fun c6 => ?_)
    refine lv_aload_n S.1 S.2.1 dX2_clash_10 rfl (lv_at hl 3 rfl) ?_
    refine lv_aload_n S.1 S.2.1 dX2_clash_11 rfl (lv_at hl 0 rfl) ?_
    refine m_getR (mb + 1) 2 (mb + 3) S hw (by omega) hm.s1 rfl rfl in_X2 (by decide) wf_X2_19 dX2_clash_12 ?_
    refine lv_iload_n S.1 S.2.1 dX2_clash_15 rfl (lv_at hl 1 rfl) ?_
    refine m_top (show enc (some x) = nI x from rfl) ?_
    refine m_ald (mb + 3) x S hw (by omega) hm.s3 (by decide) (by omega) rfl dX2_clash_16 ?_
    refine m_top (show M (mb + 3) x = nI a from ha) ?_
    refine lv_aload_n S.1 S.2.1 dX2_clash_17 rfl (lv_at hl 0 rfl) ?_
    refine m_getR (mb + 1) 2 (mb + 3) S hw (by omega) hm.s1 rfl rfl in_X2 (by decide) wf_X2_19 dX2_clash_18 ?_
    refine lv_iload_n S.1 S.2.1 dX2_clash_21 rfl (lv_at hl 2 rfl) ?_
    refine m_top (show enc (some y) = nI y from rfl) ?_
    refine m_ald (mb + 3) y S hw (by omega) hm.s3 (by decide) (by omega) rfl dX2_clash_22 ?_
    refine m_top (show M (mb + 3) y = nI b from hb) ?_
    refine r_VI (As := [.int (nI a), .int (nI b)]) (rest := []) 1 S hw (by omega) rfl rfl (c_X5_mayFollow l G N K ad M h34 a b (by omega) (by omega) (!eqB (M 2 (a * 8 + b)) 0) (hz _ (by omega))) mf_X5_mayFollow wm_X2_73 ⟨by decide, by decide⟩ ⟨Nat.le_refl _, Nat.le_refl _⟩ hl.1 rfl (Nat.le_of_ble_eq_true rfl) dX2_clash_23 (fun H locs hw => ?_)
    refine b_ne (tgt := 33) S dX2_clash_26 (by decide) (fun c7 => ?_) (fun c7 => ?_)
    · refine lv_iconst (v := nI 0) S.1 S.2.1 dX2_clash_33 (by decide) ?_
      exact m_retz S hr hlocks hw dX2_clash_34 rfl ⟨b0_f (by rw [clB_s, kx_of ha hb ha8 hb8]; exact not_t c7), rfl⟩
    · refine lv_iconst (v := nI 1) S.1 S.2.1 dX2_clash_29 (by decide) ?_
      refine lv_goto (tgt := 34) S.1 S.2.1 dX2_clash_30 (by decide) ?_
      exact m_retz S hr hlocks hw dX2_clash_34 rfl ⟨b1_t (by rw [clB_s, kx_of ha hb ha8 hb8]; exact not_f c7), rfl⟩

set_option maxHeartbeats 4000000 in
set_option maxRecDepth 100000 in
/-- Pipe.clashesAt -/
theorem c_X2_clashesAt (l : Launch) (G : GT) (N K : Nat) (ad : Nat → Nat) (M : Mem) (h34 : 34 ≤ N) (mb : Nat) (hm : IsM N K mb) (n : Nat) (hn : M (mb + 1) 0 = nI n) (hn1 : n ≤ 120) (hki : Kin (M (mb + 3)) n) (hz : Z01 (M 2) 64) (j : Nat) (hj : j < n) : CrI l G N K ad yX2_clashesAt cX2_clashesAt 5 .boolean 2 45 [.ref (ad (mb + 1)), .int (nI j), .ref (ad 1)] M (b01 (clashB (M 2) (M (mb + 3)) (M (mb + 4)) n j)) := by
  refine cm_startI (by decide +kernel) (Nat.le_of_ble_eq_true rfl) ?_
  intro p e s m below meth c ls S hr hlocks hw hl
  have hl : lv_has ls 5 [(0, .ref (ad (mb + 1))), (1, .int (nI j)), (2, .ref (ad 1))] := hl
  have hlt_mb := hm.lt
  refine lv_aload_n S.1 S.2.1 dX2_clashesAt_0 rfl (lv_at hl 0 rfl) ?_
  refine lv_iload_n S.1 S.2.1 dX2_clashesAt_1 rfl (lv_at hl 1 rfl) ?_
  refine r_VI (As := [.int (nI j)]) (rest := []) (mb + 1) S hw (by omega) hm.s1 rfl (c_X2_neighbourToBegin l G N K ad M mb hm j (by omega)) mf_X2_neighbourToBegin wm_X2_42 ⟨by decide, by decide⟩ ⟨Nat.le_refl _, Nat.le_refl _⟩ hl.1 rfl (Nat.le_of_ble_eq_true rfl) dX2_clashesAt_2 (fun H locs hw => ?_)
  refine lv_istore_n (lv' := [(3, .int (enc (nbB (M (mb + 4)) j))), (0, .ref (ad (mb + 1))), (1, .int (nI j)), (2, .ref (ad 1))]) S.1 S.2.1 dX2_clashesAt_5 rfl hl (by decide) rfl (fun ls hl => ?_)
  refine lv_aload_n S.1 S.2.1 dX2_clashesAt_6 rfl (lv_at hl 1 rfl) ?_
  refine lv_iload_n S.1 S.2.1 dX2_clashesAt_7 rfl (lv_at hl 2 rfl) ?_
  refine r_VI (As := [.int (nI j)]) (rest := []) (mb + 1) S hw (by omega) hm.s1 rfl (c_X2_neighbourToEnd l G N K ad M mb hm n hn hn1 j (by omega)) mf_X2_neighbourToEnd wm_X2_66 ⟨by decide, by decide⟩ ⟨Nat.le_refl _, Nat.le_refl _⟩ hl.1 rfl (Nat.le_of_ble_eq_true rfl) dX2_clashesAt_8 (fun H locs hw => ?_)
  refine lv_istore (lv' := [(4, .int (enc (nbE (M (mb + 4)) n j))), (3, .int (enc (nbB (M (mb + 4)) j))), (0, .ref (ad (mb + 1))), (1, .int (nI j)), (2, .ref (ad 1))]) S.1 S.2.1 dX2_clashesAt_11 hl (by decide) rfl (fun ls hl => ?_)
  refine lv_aload_n S.1 S.2.1 dX2_clashesAt_13 rfl (lv_at hl 2 rfl) ?_
  refine lv_iload_n S.1 S.2.1 dX2_clashesAt_14 rfl (lv_at hl 3 rfl) ?_
  refine r_VI (As := [.int (nI j)]) (rest := []) (mb + 1) S hw (by omega) hm.s1 rfl (c_X2_isPure l G N K ad M mb hm j (by omega)) mf_X2_isPure wm_X2_38 ⟨by decide, by decide⟩ ⟨Nat.le_refl _, Nat.le_refl _⟩ hl.1 rfl (Nat.le_of_ble_eq_true rfl) dX2_clashesAt_15 (fun H locs hw => ?_)
  refine b_ne (tgt := 30) S dX2_clashesAt_18 (by decide) (fun c1 => ?_) (fun c1 => ?_)
  · refine lv_aload_n S.1 S.2.1 dX2_clashesAt_30 rfl (lv_at hl 2 rfl) ?_
    refine lv_iload_n S.1 S.2.1 dX2_clashesAt_31 rfl (lv_at hl 1 rfl) ?_
    refine lv_iload_n S.1 S.2.1 dX2_clashesAt_32 rfl (lv_at hl 3 rfl) ?_
    refine lv_aload_n S.1 S.2.1 dX2_clashesAt_33 rfl (lv_at hl 4 rfl) ?_
    refine r_VI (As := [.int (enc (nbB (M (mb + 4)) j)), .int (nI j), .ref (ad 1)]) (rest := []) (mb + 1) S hw (by omega) hm.s1 rfl (c_X2_clash l G N K ad M h34 mb hm n hn1 hki hz (nbB (M (mb + 4)) j) (some j) (fun x hx => by have := nbB_lt hx; omega) (fun x hx => by cases hx; omega)) mf_X2_clash wm_X2_69 ⟨by decide, by decide⟩ ⟨Nat.le_refl _, Nat.le_refl _⟩ hl.1 rfl (Nat.le_of_ble_eq_true rfl) dX2_clashesAt_34 (fun H locs hw => ?_)
    refine b_ne (tgt := 51) S dX2_clashesAt_37 (by decide) (fun c2 => ?_) (fun c2 => ?_)
    · refine lv_iconst (v := nI 1) S.1 S.2.1 dX2_clashesAt_51 (by decide) ?_
      refine lv_goto (tgt := 56) S.1 S.2.1 dX2_clashesAt_52 (by decide) ?_
      exact m_retz S hr hlocks hw dX2_clashesAt_56 rfl ⟨b1_t (by rw [clashB, if_pos c1, c2]; rfl), rfl⟩
    · refine lv_aload_n S.1 S.2.1 dX2_clashesAt_40 rfl (lv_at hl 2 rfl) ?_
      refine lv_iload_n S.1 S.2.1 dX2_clashesAt_41 rfl (lv_at hl 3 rfl) ?_
      refine lv_iload S.1 S.2.1 dX2_clashesAt_42 (lv_at hl 0 rfl) ?_
      refine lv_aload_n S.1 S.2.1 dX2_clashesAt_44 rfl (lv_at hl 4 rfl) ?_
      refine r_VI (As := [.int (nI j), .int (enc (nbE (M (mb + 4)) n j)), .ref (ad 1)]) (rest := []) (mb + 1) S hw (by omega) hm.s1 rfl (c_X2_clash l G N K ad M h34 mb hm n hn1 hki hz (some j) (nbE (M (mb + 4)) n j) (fun x hx => by cases hx; omega) (fun x hx => by have := nbE_lt hx; omega)) mf_X2_clash wm_X2_69 ⟨by decide, by decide⟩ ⟨Nat.le_refl _, Nat.le_refl _⟩ hl.1 rfl (Nat.le_of_ble_eq_true rfl) dX2_clashesAt_45 (fun H locs hw => ?_)
      refine b_eq (tgt := 55) S dX2_clashesAt_48 (by decide) (fun c3 => ?_) (fun c3 => ?_)
      · refine lv_iconst (v := nI 0) S.1 S.2.1 dX2_clashesAt_55 (by decide) ?_
        exact m_retz S hr hlocks hw dX2_clashesAt_56 rfl ⟨b0_f (by rw [clashB, if_pos c1, c2, c3]; rfl), rfl⟩
      · refine lv_iconst (v := nI 1) S.1 S.2.1 dX2_clashesAt_51 (by decide) ?_
        refine lv_goto (tgt := 56) S.1 S.2.1 dX2_clashesAt_52 (by decide) ?_
        exact m_retz S hr hlocks hw dX2_clashesAt_56 rfl ⟨b1_t (by rw [clashB, if_pos c1, c2, c3]; rfl), rfl⟩
  · refine lv_aload_n S.1 S.2.1 dX2_clashesAt_21 rfl (lv_at hl 2 rfl) ?_
    refine lv_iload_n S.1 S.2.1 dX2_clashesAt_22 rfl (lv_at hl 1 rfl) ?_
    refine lv_iload S.1 S.2.1 dX2_clashesAt_23 (lv_at hl 0 rfl) ?_
    refine lv_aload_n S.1 S.2.1 dX2_clashesAt_25 rfl (lv_at hl 4 rfl) ?_
    refine r_VI (As := [.int (enc (nbB (M (mb + 4)) j)), .int (enc (nbE (M (mb + 4)) n j)), .ref (ad 1)]) (rest := []) (mb + 1) S hw (by omega) hm.s1 rfl (c_X2_clash l G N K ad M h34 mb hm n hn1 hki hz (nbB (M (mb + 4)) j) (nbE (M (mb + 4)) n j) (fun x hx => by have := nbB_lt hx; omega) (fun x hx => by have := nbE_lt hx; omega)) mf_X2_clash wm_X2_69 ⟨by decide, by decide⟩ ⟨Nat.le_refl _, Nat.le_refl _⟩ hl.1 rfl (Nat.le_of_ble_eq_true rfl) dX2_clashesAt_26 (fun H locs hw => ?_)
    exact m_retz S hr hlocks hw dX2_clashesAt_29 (b01_n _) ⟨by rw [clashB, if_neg (by rw [c1]; decide)], rfl⟩

theorem pred_lt {a : Nat} (h : a < 2 ^ 31) : nI a - nI 1 < nI a := by
  cases a with
  | zero => decide
  | succ a => rw [predN]; exact nI_lt (by omega) h
theorem m1_lt {a : Nat} (h : a < 2 ^ 31) : (-1 : Int32) < nI a := by
  rw [Int32.lt_iff_toInt_lt, nI_toInt h]
  have : (-1 : Int32).toInt = -1 := by decide
  omega
theorem ms_f {mx b : Nat → Int32} {lo hi h : Nat} {u : Option Nat × Pst} (hp : pureB u.2.2.1 h = false) : mixStep mx b lo hi h u = u := by simp [mixStep, hp]
theorem ms_n {mx b : Nat → Int32} {lo hi h : Nat} {q : Pst} (hp : pureB q.2.1 h = true) : mixStep mx b lo hi h (none, q) = (some h, q) := by simp [mixStep, hp]
theorem ms_e {mx b : Nat → Int32} {lo hi h f : Nat} {q : Pst} (hp : pureB q.2.1 h = true) (he : q.1 h = q.1 f) : mixStep mx b lo hi h (some f, q) = (some h, q) := by simp [mixStep, hp, eqB_t he]
theorem ms_c {mx b : Nat → Int32} {lo hi h f : Nat} {q : Pst} (hp : pureB q.2.1 h = true) (he : ¬ q.1 h = q.1 f) : mixStep mx b lo hi h (some f, q) = (some h, coreS mx b lo hi q h f) := by simp [mixStep, hp, eqB_f he]
theorem co_n' {mx b : Nat → Int32} {lo hi h f : Nat} {kd fo w : Nat → Int32} (hf : (farS mx kd w h f).1 = none) : coreS mx b lo hi (kd, fo, w) h f = (kd, fo, (farS mx kd w h f).2) := by simp only [coreS]; rw [hf]
theorem co_o {mx b : Nat → Int32} {lo hi h f g : Nat} {kd fo w : Nat → Int32} (hf : (farS mx kd w h f).1 = some g) (hg : ¬ (lo ≤ g ∧ g < hi)) : coreS mx b lo hi (kd, fo, w) h f = (kd, fo, (farS mx kd w h f).2) := by simp only [coreS]; rw [hf]; exact if_neg hg
theorem co_i {mx b : Nat → Int32} {lo hi h f g : Nat} {kd fo w : Nat → Int32} (hf : (farS mx kd w h f).1 = some g) (hg : lo ≤ g ∧ g < hi) : coreS mx b lo hi (kd, fo, w) h f = mixOneS b (kd, fo, (farS mx kd w h f).2) h f g := by simp only [coreS]; rw [hf]; exact if_pos hg

set_option maxHeartbeats 4000000 in
set_option maxRecDepth 100000 in
/-- Pipe.mixBorders -/
theorem c_X2_mixBorders (l : Launch) (G : GT) (N K : Nat) (ad : Nat → Nat) (M : Mem) (h34 : 34 ≤ N) (mb : Nat) (hm : IsM N K mb) (lo hi : Nat) (hlo : lo ≤ hi) (hhi : hi ≤ 120) (hki : Kin (M (mb + 3)) hi) : CmV l G N K ad yX2_mixBorders cX2_mixBorders 7 2 50 [.ref (ad (mb + 1)), .int (nI lo), .int (nI hi), .ref (ad 1)] M (fun M1 => M1 (mb + 3) = ((mixC (M 3) (M (mb + 2)) lo hi (hi - lo) (none, (M (mb + 3), M (mb + 4), M (mb + 5)))).2.1) ∧ M1 (mb + 4) = ((mixC (M 3) (M (mb + 2)) lo hi (hi - lo) (none, (M (mb + 3), M (mb + 4), M (mb + 5)))).2.2.1) ∧ M1 (mb + 5) = ((mixC (M 3) (M (mb + 2)) lo hi (hi - lo) (none, (M (mb + 3), M (mb + 4), M (mb + 5)))).2.2.2) ∧ M1 (mb + 1) = (M (mb + 1)) ∧ M1 (mb + 2) = (M (mb + 2)) ∧ Fr (mb + 1) (mb + 6) M M1) := by
  refine cm_startV (by decide +kernel) (Nat.le_of_ble_eq_true rfl) ?_
  intro p e s m below meth c ls S hr hlocks hw hl
  have hl : lv_has ls 7 [(0, .ref (ad (mb + 1))), (1, .int (nI lo)), (2, .int (nI hi)), (3, .ref (ad 1))] := hl
  have hlt_mb := hm.lt
  generalize hAv : List.toArray ([.ref (ad (mb + 1)), .int (nI lo), .int (nI hi), .ref (ad 1)] : List Value) = A at S ⊢
  have loop : ∀ (n' : Nat) (og : Option Nat), lo + n' ≤ hi → (∀ f, og = some f → lo + n' ≤ f ∧ f < hi) → ∀ (M2 : Mem) (H : Heap) (locs : List Loc) (ls : Array Slot), (mixC (M 3) (M (mb + 2)) lo hi (hi - lo) (none, (M (mb + 3), M (mb + 4), M (mb + 5))) = mixC (M 3) (M (mb + 2)) lo hi n' (og, (M2 (mb + 3), M2 (mb + 4), M2 (mb + 5))) ∧ M2 (mb + 1) = M (mb + 1) ∧ M2 (mb + 2) = M (mb + 2) ∧ Kin (M2 (mb + 3)) hi ∧ Fr (mb + 1) (mb + 6) M M2) → Wd G N K ad M2 s H locs → lv_has ls 7 [(0, .ref (ad (mb + 1))), (1, .int (nI lo)), (2, .int (nI hi)), (3, .ref (ad 1)), (4, .int (enc og)), (5, .int (nI (lo + n') - nI 1))] → W p l e { frames := 2, cells := 0, slots := 0, locals := 50 } s m A below meth c H locs 0 0 (QmV G N K ad (fun M1 => M1 (mb + 3) = ((mixC (M 3) (M (mb + 2)) lo hi (hi - lo) (none, (M (mb + 3), M (mb + 4), M (mb + 5)))).2.1) ∧ M1 (mb + 4) = ((mixC (M 3) (M (mb + 2)) lo hi (hi - lo) (none, (M (mb + 3), M (mb + 4), M (mb + 5)))).2.2.1) ∧ M1 (mb + 5) = ((mixC (M 3) (M (mb + 2)) lo hi (hi - lo) (none, (M (mb + 3), M (mb + 4), M (mb + 5)))).2.2.2) ∧ M1 (mb + 1) = (M (mb + 1)) ∧ M1 (mb + 2) = (M (mb + 2)) ∧ Fr (mb + 1) (mb + 6) M M1) below A s) (F0 m 8 ls []) := by
    intro n'
    induction n' with
    | zero =>
      intro og hc hog M2 H locs ls hv hw hl
      refine lv_iload S.1 S.2.1 dX2_mixBorders_8 (lv_at hl 5 rfl) ?_
      refine lv_iload_n S.1 S.2.1 dX2_mixBorders_10 rfl (lv_at hl 1 rfl) ?_
      refine lv_icmp_lt (tgt := 92) S.1 S.2.1 dX2_mixBorders_11 (by decide) (fun c1 => ?_) (fun c1 => absurd c1 (fun z => z (pred_lt (by omega))))
      exact m_retv S hr hlocks hw dX2_mixBorders_92 ⟨by rw [hv.1]; rfl, by rw [hv.1]; rfl, by rw [hv.1]; rfl, hv.2.1, hv.2.2.1, hv.2.2.2.2⟩
    | succ c' ih =>
      intro og hc hog M2 H locs ls hv hw hl
      have hl : lv_has ls 7 [(0, .ref (ad (mb + 1))), (1, .int (nI lo)), (2, .int (nI hi)), (3, .ref (ad 1)), (4, .int (enc og)), (5, .int (nI (lo + c')))] := by rw [show nI (lo + (c' + 1)) - nI 1 = nI (lo + c') from predN _] at hl; exact hl
      obtain ⟨im, i1, i2, ik, ifr⟩ := hv
      have i3t : M2 3 = M 3 := ifr 3 (by have := hm.2; rcases hm.1 with rfl | ⟨j, _, rfl⟩ <;> omega)
      refine lv_iload S.1 S.2.1 dX2_mixBorders_8 (lv_at hl 5 rfl) ?_
      refine lv_iload_n S.1 S.2.1 dX2_mixBorders_10 rfl (lv_at hl 1 rfl) ?_
      refine n_lt (tgt := 92) S (by omega) (by omega) dX2_mixBorders_11 (by decide) (fun c11 => absurd c11 (by omega)) (fun c11 => ?_)
      refine lv_aload_n S.1 S.2.1 dX2_mixBorders_14 rfl (lv_at hl 0 rfl) ?_
      refine lv_iload S.1 S.2.1 dX2_mixBorders_15 (lv_at hl 5 rfl) ?_
      refine r_VI (As := [.int (nI (lo + c'))]) (rest := []) (mb + 1) S hw (by omega) hm.s1 rfl (c_X2_isPure l G N K ad M2 mb hm (lo + c') (by omega)) mf_X2_isPure wm_X2_38 ⟨by decide, by decide⟩ ⟨Nat.le_refl _, Nat.le_refl _⟩ hl.1 rfl (Nat.le_of_ble_eq_true rfl) dX2_mixBorders_17 (fun H locs hw => ?_)
      refine b_ne (tgt := 26) S dX2_mixBorders_20 (by decide) (fun c12 => ?_) (fun c12 => ?_)
      · rcases opt_cases og with rfl | ⟨f, rfl⟩
        · skip
          refine lv_iload S.1 S.2.1 dX2_mixBorders_26 (lv_at hl 4 rfl) ?_
          refine m_top (show enc none = (-1) from rfl) ?_
          refine lv_iconst (v := (-1)) S.1 S.2.1 dX2_mixBorders_28 (by decide) ?_
          refine lv_icmp_eq (tgt := 82) S.1 S.2.1 dX2_mixBorders_29 (by decide) (fun c13 => ?_) (fun c13 => absurd c13 (fun z => z rfl))
          refine lv_iload S.1 S.2.1 dX2_mixBorders_82 (lv_at hl 5 rfl) ?_
          refine lv_istore (lv' := [(4, .int (nI (lo + c'))), (0, .ref (ad (mb + 1))), (1, .int (nI lo)), (2, .int (nI hi)), (3, .ref (ad 1)), (5, .int (nI (lo + c')))]) S.1 S.2.1 dX2_mixBorders_84 hl (by decide) rfl (fun ls hl => ?_)
          refine lv_iinc (v := nI (lo + c') - nI 1) (lv' := [(5, .int (nI (lo + c') - nI 1)), (4, .int (nI (lo + c'))), (0, .ref (ad (mb + 1))), (1, .int (nI lo)), (2, .int (nI hi)), (3, .ref (ad 1))]) S.1 S.2.1 dX2_mixBorders_86 hl (k := 5) rfl (iincM1 _) (by decide) rfl (fun ls hl => ?_)
          refine lv_goto (tgt := 8) S.1 S.2.1 dX2_mixBorders_89 (by decide) ?_
          refine ih (some (lo + c')) (by omega) (fun f hf => by cases hf; omega) _ _ _ ls ⟨?_, i1, i2, ?_, ifr⟩ hw (lv_sub hl [2, 3, 4, 5, 1, 0] rfl)
          · rw [im, mixC, ms_n (q := (M2 (mb + 3), M2 (mb + 4), M2 (mb + 5))) c12]
          · exact ik
        · have hf := hog f rfl
          refine lv_iload S.1 S.2.1 dX2_mixBorders_26 (lv_at hl 4 rfl) ?_
          refine m_top (show enc (some f) = nI f from rfl) ?_
          refine lv_iconst (v := (-1)) S.1 S.2.1 dX2_mixBorders_28 (by decide) ?_
          refine lv_icmp_eq (tgt := 82) S.1 S.2.1 dX2_mixBorders_29 (by decide) (fun c14 => absurd c14 (enc_ne (by omega))) (fun c14 => ?_)
          obtain ⟨ka, hka8, hka⟩ := inB_of (ik (lo + c') (by omega)) (by decide)
          obtain ⟨kb, hkb8, hkb⟩ := inB_of (ik f (by omega)) (by decide)
          refine lv_aload_n S.1 S.2.1 dX2_mixBorders_32 rfl (lv_at hl 0 rfl) ?_
          refine m_getR (mb + 1) 2 (mb + 3) S hw (by omega) hm.s1 rfl rfl in_X2 (by decide) wf_X2_19 dX2_mixBorders_33 ?_
          refine lv_iload S.1 S.2.1 dX2_mixBorders_36 (lv_at hl 5 rfl) ?_
          refine m_ald (mb + 3) (lo + c') S hw (by omega) hm.s3 (by decide) (by omega) rfl dX2_mixBorders_38 ?_
          refine lv_aload_n S.1 S.2.1 dX2_mixBorders_39 rfl (lv_at hl 0 rfl) ?_
          refine m_getR (mb + 1) 2 (mb + 3) S hw (by omega) hm.s1 rfl rfl in_X2 (by decide) wf_X2_19 dX2_mixBorders_40 ?_
          refine lv_iload S.1 S.2.1 dX2_mixBorders_43 (lv_at hl 4 rfl) ?_
          refine m_top (show enc (some f) = nI f from rfl) ?_
          refine m_ald (mb + 3) f S hw (by omega) hm.s3 (by decide) (by omega) rfl dX2_mixBorders_45 ?_
          refine lv_icmp_eq (tgt := 82) S.1 S.2.1 dX2_mixBorders_46 (by decide) (fun c15 => ?_) (fun c15 => ?_)
          · refine lv_iload S.1 S.2.1 dX2_mixBorders_82 (lv_at hl 5 rfl) ?_
            refine lv_istore (lv' := [(4, .int (nI (lo + c'))), (0, .ref (ad (mb + 1))), (1, .int (nI lo)), (2, .int (nI hi)), (3, .ref (ad 1)), (5, .int (nI (lo + c')))]) S.1 S.2.1 dX2_mixBorders_84 hl (by decide) rfl (fun ls hl => ?_)
            refine lv_iinc (v := nI (lo + c') - nI 1) (lv' := [(5, .int (nI (lo + c') - nI 1)), (4, .int (nI (lo + c'))), (0, .ref (ad (mb + 1))), (1, .int (nI lo)), (2, .int (nI hi)), (3, .ref (ad 1))]) S.1 S.2.1 dX2_mixBorders_86 hl (k := 5) rfl (iincM1 _) (by decide) rfl (fun ls hl => ?_)
            refine lv_goto (tgt := 8) S.1 S.2.1 dX2_mixBorders_89 (by decide) ?_
            refine ih (some (lo + c')) (by omega) (fun f hf => by cases hf; omega) _ _ _ ls ⟨?_, i1, i2, ?_, ifr⟩ hw (lv_sub hl [2, 3, 4, 5, 1, 0] rfl)
            · rw [im, mixC, ms_e (q := (M2 (mb + 3), M2 (mb + 4), M2 (mb + 5))) c12 c15]
            · exact ik
          · refine lv_aload_n S.1 S.2.1 dX2_mixBorders_49 rfl (lv_at hl 0 rfl) ?_
            refine lv_iload S.1 S.2.1 dX2_mixBorders_50 (lv_at hl 5 rfl) ?_
            refine lv_iload S.1 S.2.1 dX2_mixBorders_52 (lv_at hl 4 rfl) ?_
            refine m_top (show enc (some f) = nI f from rfl) ?_
            refine lv_aload_n S.1 S.2.1 dX2_mixBorders_54 rfl (lv_at hl 3 rfl) ?_
            refine m_VI (As := [.int (nI (lo + c')), .int (nI f), .ref (ad 1)]) (rest := []) (mb + 1) S hw (by omega) hm.s1 rfl (c_X2_farSide l G N K ad M2 h34 mb hm (lo + c') f ka kb (by omega) (by omega) (kx_of hka hkb hka8 hkb8) hka hkb hka8 hkb8) mf_X2_farSide wm_X2_49 ⟨by decide, by decide⟩ ⟨Nat.le_refl _, Nat.le_refl _⟩ hl.1 rfl (Nat.le_of_ble_eq_true rfl) dX2_mixBorders_55 (fun r16 M16 H locs hp16 hw => ?_)
            have er16 : r16 = enc (farS (M2 3) (M2 (mb + 3)) (M2 (mb + 5)) (lo + c') f).1 := hp16.1
            have emb_5_16 : M16 (mb + 5) = ((farS (M2 3) (M2 (mb + 3)) (M2 (mb + 5)) (lo + c') f).2) := hp16.2.1
            have emb_1_16 : M16 (mb + 1) = (M2 (mb + 1)) := hp16.2.2.1
            have emb_2_16 : M16 (mb + 2) = (M2 (mb + 2)) := hp16.2.2.2.1
            have emb_3_16 : M16 (mb + 3) = (M2 (mb + 3)) := hp16.2.2.2.2.1
            have emb_4_16 : M16 (mb + 4) = (M2 (mb + 4)) := hp16.2.2.2.2.2.1
            have fr16 : Fr (mb + 1) (mb + 6) M2 M16 := hp16.2.2.2.2.2.2
            refine m_top (show r16 = enc (farS (M2 3) (M2 (mb + 3)) (M2 (mb + 5)) (lo + c') f).1 from er16) ?_
            rcases opt_cases (farS (M2 3) (M2 (mb + 3)) (M2 (mb + 5)) (lo + c') f).1 with hfar | ⟨g, hfar⟩
            · refine m_top (show enc (farS (M2 3) (M2 (mb + 3)) (M2 (mb + 5)) (lo + c') f).1 = (-1) from enc_n hfar) ?_
              refine lv_istore (lv' := [(6, .int (-1)), (0, .ref (ad (mb + 1))), (1, .int (nI lo)), (2, .int (nI hi)), (3, .ref (ad 1)), (4, .int (enc (some f))), (5, .int (nI (lo + c')))]) S.1 S.2.1 dX2_mixBorders_58 hl (by decide) rfl (fun ls hl => ?_)
              refine lv_iload S.1 S.2.1 dX2_mixBorders_60 (lv_at hl 0 rfl) ?_
              refine lv_iload_n S.1 S.2.1 dX2_mixBorders_62 rfl (lv_at hl 2 rfl) ?_
              refine lv_icmp_lt (tgt := 82) S.1 S.2.1 dX2_mixBorders_63 (by decide) (fun c17 => ?_) (fun c17 => absurd c17 (fun z => z (m1_lt (by omega))))
              refine lv_iload S.1 S.2.1 dX2_mixBorders_82 (lv_at hl 6 rfl) ?_
              refine lv_istore (lv' := [(4, .int (nI (lo + c'))), (6, .int (-1)), (0, .ref (ad (mb + 1))), (1, .int (nI lo)), (2, .int (nI hi)), (3, .ref (ad 1)), (5, .int (nI (lo + c')))]) S.1 S.2.1 dX2_mixBorders_84 hl (by decide) rfl (fun ls hl => ?_)
              refine lv_iinc (v := nI (lo + c') - nI 1) (lv' := [(5, .int (nI (lo + c') - nI 1)), (4, .int (nI (lo + c'))), (6, .int (-1)), (0, .ref (ad (mb + 1))), (1, .int (nI lo)), (2, .int (nI hi)), (3, .ref (ad 1))]) S.1 S.2.1 dX2_mixBorders_86 hl (k := 6) rfl (iincM1 _) (by decide) rfl (fun ls hl => ?_)
              refine lv_goto (tgt := 8) S.1 S.2.1 dX2_mixBorders_89 (by decide) ?_
              refine ih (some (lo + c')) (by omega) (fun f hf => by cases hf; omega) _ _ _ ls ⟨?_, emb_1_16.trans i1, emb_2_16.trans i2, ?_, (Fr.tr ifr fr16 (by omega) (by omega))⟩ hw (lv_sub hl [3, 4, 5, 6, 1, 0] rfl)
              · rw [im, mixC, ms_c (q := (M2 (mb + 3), M2 (mb + 4), M2 (mb + 5))) c12 c15]
                rw [co_n' (by rw [← i3t]; exact hfar), ← i3t, emb_3_16, emb_4_16, emb_5_16]
              · rw [emb_3_16]; exact ik
            · have hgb := farS_lt hfar (by omega)
              refine m_top (show enc (farS (M2 3) (M2 (mb + 3)) (M2 (mb + 5)) (lo + c') f).1 = nI g from enc_s hfar) ?_
              refine lv_istore (lv' := [(6, .int (nI g)), (0, .ref (ad (mb + 1))), (1, .int (nI lo)), (2, .int (nI hi)), (3, .ref (ad 1)), (4, .int (enc (some f))), (5, .int (nI (lo + c')))]) S.1 S.2.1 dX2_mixBorders_58 hl (by decide) rfl (fun ls hl => ?_)
              refine lv_iload S.1 S.2.1 dX2_mixBorders_60 (lv_at hl 0 rfl) ?_
              refine lv_iload_n S.1 S.2.1 dX2_mixBorders_62 rfl (lv_at hl 2 rfl) ?_
              refine n_lt (tgt := 82) S (by omega) (by omega) dX2_mixBorders_63 (by decide) (fun c18 => ?_) (fun c18 => ?_)
              · refine lv_iload S.1 S.2.1 dX2_mixBorders_82 (lv_at hl 6 rfl) ?_
                refine lv_istore (lv' := [(4, .int (nI (lo + c'))), (6, .int (nI g)), (0, .ref (ad (mb + 1))), (1, .int (nI lo)), (2, .int (nI hi)), (3, .ref (ad 1)), (5, .int (nI (lo + c')))]) S.1 S.2.1 dX2_mixBorders_84 hl (by decide) rfl (fun ls hl => ?_)
                refine lv_iinc (v := nI (lo + c') - nI 1) (lv' := [(5, .int (nI (lo + c') - nI 1)), (4, .int (nI (lo + c'))), (6, .int (nI g)), (0, .ref (ad (mb + 1))), (1, .int (nI lo)), (2, .int (nI hi)), (3, .ref (ad 1))]) S.1 S.2.1 dX2_mixBorders_86 hl (k := 6) rfl (iincM1 _) (by decide) rfl (fun ls hl => ?_)
                refine lv_goto (tgt := 8) S.1 S.2.1 dX2_mixBorders_89 (by decide) ?_
                refine ih (some (lo + c')) (by omega) (fun f hf => by cases hf; omega) _ _ _ ls ⟨?_, emb_1_16.trans i1, emb_2_16.trans i2, ?_, (Fr.tr ifr fr16 (by omega) (by omega))⟩ hw (lv_sub hl [3, 4, 5, 6, 1, 0] rfl)
                · rw [im, mixC, ms_c (q := (M2 (mb + 3), M2 (mb + 4), M2 (mb + 5))) c12 c15]
                  rw [co_o (by rw [← i3t]; exact hfar) (by omega), ← i3t, emb_3_16, emb_4_16, emb_5_16]
                · rw [emb_3_16]; exact ik
              · refine lv_iload S.1 S.2.1 dX2_mixBorders_66 (lv_at hl 0 rfl) ?_
                refine lv_iload_n S.1 S.2.1 dX2_mixBorders_68 rfl (lv_at hl 3 rfl) ?_
                refine n_ge (tgt := 82) S (by omega) (by omega) dX2_mixBorders_69 (by decide) (fun c19 => ?_) (fun c19 => ?_)
                · refine lv_iload S.1 S.2.1 dX2_mixBorders_82 (lv_at hl 6 rfl) ?_
                  refine lv_istore (lv' := [(4, .int (nI (lo + c'))), (6, .int (nI g)), (0, .ref (ad (mb + 1))), (1, .int (nI lo)), (2, .int (nI hi)), (3, .ref (ad 1)), (5, .int (nI (lo + c')))]) S.1 S.2.1 dX2_mixBorders_84 hl (by decide) rfl (fun ls hl => ?_)
                  refine lv_iinc (v := nI (lo + c') - nI 1) (lv' := [(5, .int (nI (lo + c') - nI 1)), (4, .int (nI (lo + c'))), (6, .int (nI g)), (0, .ref (ad (mb + 1))), (1, .int (nI lo)), (2, .int (nI hi)), (3, .ref (ad 1))]) S.1 S.2.1 dX2_mixBorders_86 hl (k := 6) rfl (iincM1 _) (by decide) rfl (fun ls hl => ?_)
                  refine lv_goto (tgt := 8) S.1 S.2.1 dX2_mixBorders_89 (by decide) ?_
                  refine ih (some (lo + c')) (by omega) (fun f hf => by cases hf; omega) _ _ _ ls ⟨?_, emb_1_16.trans i1, emb_2_16.trans i2, ?_, (Fr.tr ifr fr16 (by omega) (by omega))⟩ hw (lv_sub hl [3, 4, 5, 6, 1, 0] rfl)
                  · rw [im, mixC, ms_c (q := (M2 (mb + 3), M2 (mb + 4), M2 (mb + 5))) c12 c15]
                    rw [co_o (by rw [← i3t]; exact hfar) (by omega), ← i3t, emb_3_16, emb_4_16, emb_5_16]
                  · rw [emb_3_16]; exact ik
                · refine lv_aload_n S.1 S.2.1 dX2_mixBorders_72 rfl (lv_at hl 1 rfl) ?_
                  refine lv_iload S.1 S.2.1 dX2_mixBorders_73 (lv_at hl 6 rfl) ?_
                  refine lv_iload S.1 S.2.1 dX2_mixBorders_75 (lv_at hl 5 rfl) ?_
                  refine m_top (show enc (some f) = nI f from rfl) ?_
                  refine lv_iload S.1 S.2.1 dX2_mixBorders_77 (lv_at hl 0 rfl) ?_
                  refine m_VV (As := [.int (nI (lo + c')), .int (nI f), .int (nI g)]) (rest := []) (mb + 1) S hw (by omega) hm.s1 rfl (c_X2_mixOne l G N K ad M16 mb hm (lo + c') f g (by omega) (by omega) (by omega)) mf_X2_mixOne wm_X2_53 ⟨by decide, by decide⟩ ⟨Nat.le_refl _, Nat.le_refl _⟩ hl.1 rfl (Nat.le_of_ble_eq_true rfl) dX2_mixBorders_79 (fun M20 H locs hp20 hw => ?_)
                  have emb_3_20 : M20 (mb + 3) = ((mixOneS (M16 (mb + 2)) (M16 (mb + 3), M16 (mb + 4), M16 (mb + 5)) (lo + c') f g).1) := hp20.1
                  have emb_4_20 : M20 (mb + 4) = ((mixOneS (M16 (mb + 2)) (M16 (mb + 3), M16 (mb + 4), M16 (mb + 5)) (lo + c') f g).2.1) := hp20.2.1
                  have emb_5_20 : M20 (mb + 5) = ((mixOneS (M16 (mb + 2)) (M16 (mb + 3), M16 (mb + 4), M16 (mb + 5)) (lo + c') f g).2.2) := hp20.2.2.1
                  have emb_1_20 : M20 (mb + 1) = (M16 (mb + 1)) := hp20.2.2.2.1
                  have emb_2_20 : M20 (mb + 2) = (M16 (mb + 2)) := hp20.2.2.2.2.1
                  have fr20 : Fr (mb + 1) (mb + 6) M16 M20 := hp20.2.2.2.2.2
                  refine lv_iload S.1 S.2.1 dX2_mixBorders_82 (lv_at hl 6 rfl) ?_
                  refine lv_istore (lv' := [(4, .int (nI (lo + c'))), (6, .int (nI g)), (0, .ref (ad (mb + 1))), (1, .int (nI lo)), (2, .int (nI hi)), (3, .ref (ad 1)), (5, .int (nI (lo + c')))]) S.1 S.2.1 dX2_mixBorders_84 hl (by decide) rfl (fun ls hl => ?_)
                  refine lv_iinc (v := nI (lo + c') - nI 1) (lv' := [(5, .int (nI (lo + c') - nI 1)), (4, .int (nI (lo + c'))), (6, .int (nI g)), (0, .ref (ad (mb + 1))), (1, .int (nI lo)), (2, .int (nI hi)), (3, .ref (ad 1))]) S.1 S.2.1 dX2_mixBorders_86 hl (k := 6) rfl (iincM1 _) (by decide) rfl (fun ls hl => ?_)
                  refine lv_goto (tgt := 8) S.1 S.2.1 dX2_mixBorders_89 (by decide) ?_
                  have hq21 : M20 (mb + 1) = M2 (mb + 1) := emb_1_20.trans emb_1_16
                  have hq22 : M20 (mb + 2) = M2 (mb + 2) := emb_2_20.trans emb_2_16
                  have hq23 : M20 (mb + 3) = (mixOneS (M2 (mb + 2)) (M2 (mb + 3), M2 (mb + 4), ((farS (M2 3) (M2 (mb + 3)) (M2 (mb + 5)) (lo + c') f).2)) (lo + c') f g).1 := by rw [emb_3_20, emb_2_16, emb_3_16, emb_4_16, emb_5_16]
                  have hq24 : M20 (mb + 4) = (mixOneS (M2 (mb + 2)) (M2 (mb + 3), M2 (mb + 4), ((farS (M2 3) (M2 (mb + 3)) (M2 (mb + 5)) (lo + c') f).2)) (lo + c') f g).2.1 := by rw [emb_4_20, emb_2_16, emb_3_16, emb_4_16, emb_5_16]
                  have hq25 : M20 (mb + 5) = (mixOneS (M2 (mb + 2)) (M2 (mb + 3), M2 (mb + 4), ((farS (M2 3) (M2 (mb + 3)) (M2 (mb + 5)) (lo + c') f).2)) (lo + c') f g).2.2 := by rw [emb_5_20, emb_2_16, emb_3_16, emb_4_16, emb_5_16]
                  refine ih (some (lo + c')) (by omega) (fun f hf => by cases hf; omega) _ _ _ ls ⟨?_, hq21.trans i1, hq22.trans i2, ?_, (Fr.tr (Fr.tr ifr fr16 (by omega) (by omega)) fr20 (by omega) (by omega))⟩ hw (lv_sub hl [3, 4, 5, 6, 1, 0] rfl)
                  · rw [im, mixC, ms_c (q := (M2 (mb + 3), M2 (mb + 4), M2 (mb + 5))) c12 c15]
                    rw [co_i (by rw [← i3t]; exact hfar) (by omega), ← i3t, ← i2, hq23, hq24, hq25]
                  · rw [hq23]; exact kin_mo ik (by omega)
      · refine lv_goto (tgt := 86) S.1 S.2.1 dX2_mixBorders_23 (by decide) ?_
        refine lv_iinc (v := nI (lo + c') - nI 1) (lv' := [(5, .int (nI (lo + c') - nI 1)), (0, .ref (ad (mb + 1))), (1, .int (nI lo)), (2, .int (nI hi)), (3, .ref (ad 1)), (4, .int (enc og))]) S.1 S.2.1 dX2_mixBorders_86 hl (k := 5) rfl (iincM1 _) (by decide) rfl (fun ls hl => ?_)
        refine lv_goto (tgt := 8) S.1 S.2.1 dX2_mixBorders_89 (by decide) ?_
        refine ih og (by omega) (fun f hf => by have := hog f hf; omega) _ _ _ ls ⟨?_, i1, i2, ?_, ifr⟩ hw (lv_sub hl [1, 2, 3, 4, 5, 0] rfl)
        · rw [im, mixC, ms_f (u := (og, (M2 (mb + 3), M2 (mb + 4), M2 (mb + 5)))) c12]
        · exact ik
  refine lv_iconst (v := (-1)) S.1 S.2.1 dX2_mixBorders_0 (by decide) ?_
  refine lv_istore (lv' := [(4, .int (-1)), (0, .ref (ad (mb + 1))), (1, .int (nI lo)), (2, .int (nI hi)), (3, .ref (ad 1))]) S.1 S.2.1 dX2_mixBorders_1 hl (by decide) rfl (fun ls hl => ?_)
  refine lv_iload_n S.1 S.2.1 dX2_mixBorders_3 rfl (lv_at hl 3 rfl) ?_
  refine lv_iconst (v := nI 1) S.1 S.2.1 dX2_mixBorders_4 (by decide) ?_
  refine lv_isub S.1 S.2.1 dX2_mixBorders_5 ?_
  refine lv_istore (lv' := [(5, .int ((nI hi) - (nI 1))), (4, .int (-1)), (0, .ref (ad (mb + 1))), (1, .int (nI lo)), (2, .int (nI hi)), (3, .ref (ad 1))]) S.1 S.2.1 dX2_mixBorders_6 hl (by decide) rfl (fun ls hl => ?_)
  have hl : lv_has ls 7 [(5, .int (nI (lo + (hi - lo)) - nI 1)), (4, .int (enc none)), (0, .ref (ad (mb + 1))), (1, .int (nI lo)), (2, .int (nI hi)), (3, .ref (ad 1))] := by rw [show lo + (hi - lo) = hi by omega]; exact hl
  exact loop (hi - lo) none (by omega) (fun f hf => by cases hf) _ _ _ ls ⟨rfl, rfl, rfl, hki, Fr.rf⟩ hw (lv_sub hl [2, 3, 4, 5, 1, 0] rfl)
end
section
/-! A STEP OF A PUSH, as a plain function. R: the rows of a moment by their places in it (2 batches, 3 kinds, 4 fore kinds, 5 gone, 7 amounts, 8 foreign, 9 came, 10 slop, 11 went out); T: 2 may, 3 mix, 4 grace, 9 tanks, 10 least, 11 most -/
def sinkS (T R : Mem) (d m : Nat) : Option Nat :=
  if pureB (R 4) m then (if eqB (T 9 (d * 8 + tn (R 3 m))) 0 then none else some (d * 8 + tn (R 3 m)))
  else if !eqB (T 9 (d * 8 + tn (R 3 m))) 0 && bearB (R 8) (R 7) (T 4 (tn (R 3 m))) (d * 8 + tn (R 3 m)) then some (d * 8 + tn (R 3 m))
  else if !eqB (T 9 (d * 8 + tn (R 4 m))) 0 && bearB (R 8) (R 7) (T 4 (tn (R 4 m))) (d * 8 + tn (R 4 m)) then some (d * 8 + tn (R 4 m))
  else none
def outAm (s : Option Nat) (am : Nat → Int32) : Nat → Int32 := match s with
  | none => am
  | some t => upd am t (am t + nI 1)
def outFr (s : Option Nat) (p : Bool) (fr : Nat → Int32) : Nat → Int32 := match s with
  | none => fr
  | some t => if p then fr else upd fr t (fr t + nI 1)
def outSl (s : Option Nat) (d : Nat) (sp : Nat → Int32) : Nat → Int32 := match s with
  | none => upd sp d (sp d + nI 1)
  | some _ => sp
def outWo (wo : Nat → Int32) (b : Nat) : Nat → Int32 := upd wo b (wo b + nI 1)
def outR (T R : Mem) (d m : Nat) : Mem := fun r => if r = 7 then outAm (sinkS T R d m) (R 7) else if r = 8 then outFr (sinkS T R d m) (pureB (R 4) m) (R 8) else if r = 9 then outAm (sinkS T R d m) (R 9) else if r = 10 then outSl (sinkS T R d m) d (R 10) else if r = 11 then outWo (R 11) (tn (R 2 m)) else R r
def movF (lo hi : Nat) (x : Int32) (f : Nat → Int32) : Nat → Int32 := upd (va_cpy f f lo (lo + 1) (hi - 1 - lo)) lo x
def movR (lo hi bn k : Nat) (R : Mem) : Mem := fun r => if r = 2 then movF lo hi (nI bn) (R 2) else if r = 3 then movF lo hi (nI k) (R 3) else if r = 4 then movF lo hi (-1) (R 4) else if r = 5 then movF lo hi (nI 0) (R 5) else R r
def takR (src : Nat) (R : Mem) : Mem := fun r => if r = 7 then upd (R 7) src (R 7 src - nI 1) else if r = 8 then upd (R 8) src (if R 7 src - nI 1 < R 8 src then R 7 src - nI 1 else R 8 src) else R r
def mixR (mf : (Nat → Int32) → (Nat → Int32) → Nat → Nat → Pst → Pst) (T : Mem) (lo hi : Nat) (R : Mem) : Mem := fun r => if r = 3 then (mf (T 3) (R 2) lo hi (R 3, R 4, R 5)).1 else if r = 4 then (mf (T 3) (R 2) lo hi (R 3, R 4, R 5)).2.1 else if r = 5 then (mf (T 3) (R 2) lo hi (R 3, R 4, R 5)).2.2 else R r
def mfC (mx b : Nat → Int32) (lo hi : Nat) (q : Pst) : Pst := (mixC mx b lo hi (hi - lo) (none, q)).2
def mfM (mx b : Nat → Int32) (lo hi : Nat) (q : Pst) : Pst := mixM mx b lo hi (hi - lo) q
def goR (mf : (Nat → Int32) → (Nat → Int32) → Nat → Nat → Pst → Pst) (T : Mem) (lo hi src d k bn : Nat) (R : Mem) : Mem := mixR mf T lo hi (takR src (movR lo hi bn k (outR T R d (hi - 1))))
def dryB (T R : Mem) (src : Nat) : Bool := eqB (T 9 src) 0 || decide (R 7 src - nI 1 < T 10 src)
def fullB (T R : Mem) (s : Option Nat) : Bool := match s with
  | none => false
  | some t => decide (T 11 t < R 7 t + nI 1)
def wrongB (T R : Mem) (n lo hi : Nat) : Bool := clashB (T 2) (R 3) (R 4) n lo || clashB (T 2) (R 3) (R 4) n (hi - 1)
def stepS (mf : (Nat → Int32) → (Nat → Int32) → Nat → Nat → Pst → Pst) (T : Mem) (lo hi src d k bn n : Nat) (R : Mem) : Nat × Mem :=
  if dryB T R src then (1, R) else if fullB T R (sinkS T R d (hi - 1)) then (2, R)
  else (if wrongB T (goR mf T lo hi src d k bn R) n lo hi then 3 else 0, goR mf T lo hi src d k bn R)
def flowS (mf : (Nat → Int32) → (Nat → Int32) → Nat → Nat → Pst → Pst) (T : Mem) (lo hi src d k bn n : Nat) : Nat → Mem → Nat × Mem
  | 0, R => (0, R)
  | c + 1, R => if (stepS mf T lo hi src d k bn n R).1 = 0 then flowS mf T lo hi src d k bn n c (stepS mf T lo hi src d k bn n R).2 else stepS mf T lo hi src d k bn n R
/-- the rows are as they should be: batches in front of bm, kinds, fore kinds of the mixed ones; pure ones of one batch are of one kind, those of batch bn of kind k -/
def VR (n bm : Nat) (R : Mem) : Prop := (∀ j, j < n → inB (R 2 j) bm = true) ∧ Kin (R 3) n ∧ (∀ j, j < n → pureB (R 4) j = false → inB (R 4 j) 8 = true) ∧ (∀ i j, i < n → j < n → pureB (R 4) i = true → pureB (R 4) j = true → R 2 i = R 2 j → R 3 i = R 3 j)
def VK (n bn k : Nat) (R : Mem) : Prop := ∀ j, j < n → pureB (R 4) j = true → R 2 j = nI bn → R 3 j = nI k
theorem kin_upd {kd : Nat → Int32} {n j : Nat} {x : Int32} (h : Kin kd n) (hx : inB x 8 = true) : Kin (upd kd j x) n := by
  intro i hi
  by_cases e : i = j
  · subst e; rw [pk_us]; exact hx
  · rw [pk_un e]; exact h i hi
theorem inB_k {k n : Nat} (h : k < n) (hn : n ≤ 2 ^ 31) : inB (nI k) n = true := by rw [inB_nI (by omega)]; exact decide_eq_true h
/-- what moves on: a place's row from the place in front of it -/
theorem mov_at {lo hi : Nat} {x : Int32} {f : Nat → Int32} (h : lo < hi) (j : Nat) : movF lo hi x f j = if j = lo then x else if lo < j ∧ j < hi then f (j - 1) else f j := by
  unfold movF
  by_cases e : j = lo
  · subst e; rw [pk_us, if_pos rfl]
  · rw [pk_un e, if_neg e]
    by_cases c : lo < j ∧ j < hi
    · rw [if_pos c, pk_cpy_in (by omega) (by omega)]
      congr 1
      omega
    · rw [if_neg c, pk_cpy_out (by omega)]
theorem kin_mov {kd : Nat → Int32} {n lo hi k : Nat} (h : Kin kd n) (hk : k < 8) (hl : lo < hi) : Kin (movF lo hi (nI k) kd) n := by
  intro j hj
  rw [mov_at hl]
  split
  · exact inB_k hk (by decide)
  · split
    · exact h _ (by omega)
    · exact h j hj
theorem kin_core {mx b : Nat → Int32} {lo hi h f n : Nat} {q : Pst} (hk : Kin q.1 n) (hh : h < n) : Kin (coreS mx b lo hi q h f).1 n := by
  obtain ⟨kd, fo, w⟩ := q
  rcases opt_cases (farS mx kd w h f).1 with e | ⟨g, e⟩
  · rw [co_n' e]; exact hk
  · by_cases c : lo ≤ g ∧ g < hi
    · rw [co_i e c]; exact kin_mo hk hh
    · rw [co_o e c]; exact hk
theorem kin_ms {mx b : Nat → Int32} {lo hi h n : Nat} {u : Option Nat × Pst} (hk : Kin u.2.1 n) (hh : h < n) : Kin (mixStep mx b lo hi h u).2.1 n := by
  obtain ⟨og, q⟩ := u
  by_cases hp : pureB q.2.1 h = true
  · rcases opt_cases og with rfl | ⟨f, rfl⟩
    · rw [ms_n hp]; exact hk
    · by_cases he : q.1 h = q.1 f
      · rw [ms_e hp he]; exact hk
      · rw [ms_c hp he]; exact kin_core hk hh
  · rw [ms_f (by simpa using hp)]; exact hk
theorem kin_mixC {mx b : Nat → Int32} {lo hi n : Nat} : ∀ (c : Nat) (u : Option Nat × Pst), Kin u.2.1 n → lo + c ≤ n → Kin (mixC mx b lo hi c u).2.1 n
  | 0, u, h, _ => h
  | c + 1, u, h, hc => kin_mixC c _ (kin_ms h (by omega)) (by omega)
theorem kin_go {T R : Mem} {lo hi src d k bn n : Nat} (hk : Kin (R 3) n) (hk8 : k < 8) (hl : lo < hi) (hh : hi ≤ n) : Kin (goR mfC T lo hi src d k bn R 3) n := by
  show Kin (mixC _ _ lo hi (hi - lo) (none, _)).2.1 n
  refine kin_mixC _ _ ?_ (by omega)
  show Kin (movF lo hi (nI k) (R 3)) n
  exact kin_mov hk hk8 hl
/-- the hours of a push: what they cost -/
def passC (pr : Nat → Int32) : Nat → Int32 → Nat → Int32
  | _, c, 0 => c
  | t, c, h + 1 => passC pr (t + 1) (c + pr (t % 24)) h
end
section
set_option maxHeartbeats 4000000 in
set_option maxRecDepth 100000 in
/-- Wishes.wanting -/
theorem c_X6_wanting (l : Launch) (G : GT) (N K : Nat) (ad : Nat → Nat) (M : Mem) (h34 : 34 ≤ N) (Wn : Nat) (hWn : M 12 0 = nI Wn) (hW20 : Wn ≤ 20) (hwt : ∀ w, w < Wn → inB (M 13 w) 48 = true) (w : Nat) (hw1 : w < Wn) : CrI l G N K ad yX6_wanting cX6_wanting 4 .int 1 21 [.ref (ad 12), .int (nI w), .ref (ad 26)] M (wantS (M 13) (M 14) (M 16) (M 29) w) := by
  refine cm_startI (by decide +kernel) (Nat.le_of_ble_eq_true rfl) ?_
  intro p e s m below meth c ls S hr hlocks hw hl
  have hl : lv_has ls 4 [(0, .ref (ad 12)), (1, .int (nI w)), (2, .ref (ad 26))] := hl
  obtain ⟨tk, htk, etk⟩ := inB_of (hwt w (by omega)) (by decide)
  have etn : tn (M 13 w) = tk := by rw [etk]; exact tn_nI (by omega)
  refine lv_aload_n S.1 S.2.1 dX6_wanting_0 rfl (lv_at hl 2 rfl) ?_
  refine m_getR 26 2 29 S hw (by omega) rfl rfl rfl in_X4 (by decide) wf_X6_28 dX6_wanting_1 ?_
  refine lv_aload_n S.1 S.2.1 dX6_wanting_4 rfl (lv_at hl 0 rfl) ?_
  refine m_getR 12 1 13 S hw (by omega) rfl rfl rfl in_X6 (by decide) wf_X6_15 dX6_wanting_5 ?_
  refine lv_iload_n S.1 S.2.1 dX6_wanting_8 rfl (lv_at hl 1 rfl) ?_
  refine m_ald 13 w S hw (by omega) rfl (by decide) (by omega) rfl dX6_wanting_9 ?_
  refine m_top (show M 13 w = nI tk from etk) ?_
  refine m_ald 29 tk S hw (by omega) rfl (by decide) (by omega) rfl dX6_wanting_10 ?_
  refine lv_aload_n S.1 S.2.1 dX6_wanting_11 rfl (lv_at hl 0 rfl) ?_
  refine m_getR 12 4 16 S hw (by omega) rfl rfl rfl in_X6 (by decide) wf_X6_25 dX6_wanting_12 ?_
  refine lv_iload_n S.1 S.2.1 dX6_wanting_15 rfl (lv_at hl 1 rfl) ?_
  refine m_ald 16 w S hw (by omega) rfl (by decide) (by omega) rfl dX6_wanting_16 ?_
  refine lv_isub S.1 S.2.1 dX6_wanting_17 ?_
  refine lv_istore_n (lv' := [(3, .int ((M 29 tk) - (M 16 w))), (0, .ref (ad 12)), (1, .int (nI w)), (2, .ref (ad 26))]) S.1 S.2.1 dX6_wanting_18 rfl hl (by decide) rfl (fun ls hl => ?_)
  refine lv_iconst (v := nI 0) S.1 S.2.1 dX6_wanting_19 (by decide) ?_
  refine lv_aload_n S.1 S.2.1 dX6_wanting_20 rfl (lv_at hl 1 rfl) ?_
  refine m_getR 12 2 14 S hw (by omega) rfl rfl rfl in_X6 (by decide) wf_X6_19 dX6_wanting_21 ?_
  refine lv_iload_n S.1 S.2.1 dX6_wanting_24 rfl (lv_at hl 2 rfl) ?_
  refine m_ald 14 w S hw (by omega) rfl (by decide) (by omega) rfl dX6_wanting_25 ?_
  refine lv_iload_n S.1 S.2.1 dX6_wanting_26 rfl (lv_at hl 0 rfl) ?_
  refine lv_isub S.1 S.2.1 dX6_wanting_27 ?_
  refine va_mmax S.1 S.2.1 (S.2.2.1.trans hl.1.symm) S.2.2.2.1 (S.2.2.2.2 _ wm_X6_33) (S.2.2.2.2 _ wt_max) (S.2.2.2.2 _ wn_J9) (S.2.2.2.2 _ wc_max) (by decide) (Nat.le_of_ble_eq_true rfl) (by decide) (by decide) dX6_wanting_28 ?_
  exact m_reti S hr hlocks hw dX6_wanting_31 ⟨by rw [wantS, etn], rfl⟩

set_option maxHeartbeats 4000000 in
set_option maxRecDepth 100000 in
/-- Wishes.tell -/
theorem c_X6_tell (l : Launch) (G : GT) (N K : Nat) (ad : Nat → Nat) (M : Mem) (h34 : 34 ≤ N) (Wn : Nat) (hWn : M 12 0 = nI Wn) (hW20 : Wn < 20) (x1 x2 x3 x4 : Int32) : CmI l G N K ad yX6_tell cX6_tell 6 .int 0 0 [.ref (ad 12), .int x1, .int x2, .int x3, .int x4] M (fun r M1 => r = nI Wn ∧ M1 12 = upd (M 12) 0 (nI (Wn + 1)) ∧ M1 13 = upd (M 13) Wn x1 ∧ M1 14 = upd (M 14) Wn x2 ∧ M1 15 = upd (M 15) Wn x3 ∧ M1 16 = upd (M 16) Wn x4 ∧ Fr 12 17 M M1) := by
  refine cm_startI (by decide +kernel) (Nat.le_of_ble_eq_true rfl) ?_
  intro p e s m below meth c ls S hr hlocks hw hl
  have hl : lv_has ls 6 [(0, .ref (ad 12)), (1, .int x1), (2, .int x2), (3, .int x3), (4, .int x4)] := hl
  refine lv_aload_n S.1 S.2.1 dX6_tell_0 rfl (lv_at hl 0 rfl) ?_
  refine m_getI 12 0 S hw (by omega) rfl rfl rfl in_X6 (by decide) wf_X6_9 dX6_tell_1 ?_
  refine m_top (show M 12 0 = nI Wn from hWn) ?_
  refine lv_istore (lv' := [(5, .int (nI Wn)), (0, .ref (ad 12)), (1, .int x1), (2, .int x2), (3, .int x3), (4, .int x4)]) S.1 S.2.1 dX6_tell_4 hl (by decide) rfl (fun ls hl => ?_)
  refine lv_aload_n S.1 S.2.1 dX6_tell_6 rfl (lv_at hl 1 rfl) ?_
  refine m_getR 12 1 13 S hw (by omega) rfl rfl rfl in_X6 (by decide) wf_X6_15 dX6_tell_7 ?_
  refine lv_iload S.1 S.2.1 dX6_tell_10 (lv_at hl 0 rfl) ?_
  refine lv_iload_n S.1 S.2.1 dX6_tell_12 rfl (lv_at hl 2 rfl) ?_
  refine n_ast 13 Wn S hw (by omega) rfl (by decide) (by omega) rfl dX6_tell_13 (fun M1 H locs eM1 hw => ?_)
  refine lv_aload_n S.1 S.2.1 dX6_tell_14 rfl (lv_at hl 1 rfl) ?_
  refine m_getR 12 2 14 S hw (by omega) rfl rfl rfl in_X6 (by decide) wf_X6_19 dX6_tell_15 ?_
  refine lv_iload S.1 S.2.1 dX6_tell_18 (lv_at hl 0 rfl) ?_
  refine lv_iload_n S.1 S.2.1 dX6_tell_20 rfl (lv_at hl 3 rfl) ?_
  refine n_ast 14 Wn S hw (by omega) rfl (by decide) (by omega) rfl dX6_tell_21 (fun M2 H locs eM2 hw => ?_)
  refine lv_aload_n S.1 S.2.1 dX6_tell_22 rfl (lv_at hl 1 rfl) ?_
  refine m_getR 12 3 15 S hw (by omega) rfl rfl rfl in_X6 (by decide) wf_X6_22 dX6_tell_23 ?_
  refine lv_iload S.1 S.2.1 dX6_tell_26 (lv_at hl 0 rfl) ?_
  refine lv_iload_n S.1 S.2.1 dX6_tell_28 rfl (lv_at hl 4 rfl) ?_
  refine n_ast 15 Wn S hw (by omega) rfl (by decide) (by omega) rfl dX6_tell_29 (fun M3 H locs eM3 hw => ?_)
  refine lv_aload_n S.1 S.2.1 dX6_tell_30 rfl (lv_at hl 1 rfl) ?_
  refine m_getR 12 4 16 S hw (by omega) rfl rfl rfl in_X6 (by decide) wf_X6_25 dX6_tell_31 ?_
  refine lv_iload S.1 S.2.1 dX6_tell_34 (lv_at hl 0 rfl) ?_
  refine lv_iload S.1 S.2.1 dX6_tell_36 (lv_at hl 5 rfl) ?_
  refine n_ast 16 Wn S hw (by omega) rfl (by decide) (by omega) rfl dX6_tell_38 (fun M4 H locs eM4 hw => ?_)
  refine lv_aload_n S.1 S.2.1 dX6_tell_39 rfl (lv_at hl 1 rfl) ?_
  refine lv_iload S.1 S.2.1 dX6_tell_40 (lv_at hl 0 rfl) ?_
  refine lv_iconst (v := nI 1) S.1 S.2.1 dX6_tell_42 (by decide) ?_
  refine lv_iadd S.1 S.2.1 dX6_tell_43 ?_
  refine m_top (show (nI Wn) + (nI 1) = nI (Wn + 1) from nI_add _ _) ?_
  refine n_putI 12 0 S hw (by omega) rfl rfl rfl in_X6 tyX6_ok nmX6 (by decide) rfl rfl wf_X6_9 dX6_tell_44 (fun M5 H locs eM5 hw => ?_)
  refine lv_iload S.1 S.2.1 dX6_tell_47 (lv_at hl 0 rfl) ?_
  have hq6 : M1 12 = M 12 := by rw [eM1, va_up_ne _ _ (by omega)]
  have hq7 : M2 12 = M 12 := by rw [eM2, va_up_ne _ _ (by omega), hq6]
  have hq8 : M3 12 = M 12 := by rw [eM3, va_up_ne _ _ (by omega), hq7]
  have hq9 : M4 12 = M 12 := by rw [eM4, va_up_ne _ _ (by omega), hq8]
  have hq10 : M5 12 = upd (M 12) 0 (nI (Wn + 1)) := by rw [eM5, va_up_self, hq9]
  have hq11 : M1 13 = upd (M 13) Wn x1 := by rw [eM1, va_up_self]
  have hq12 : M2 13 = upd (M 13) Wn x1 := by rw [eM2, va_up_ne _ _ (by omega), hq11]
  have hq13 : M3 13 = upd (M 13) Wn x1 := by rw [eM3, va_up_ne _ _ (by omega), hq12]
  have hq14 : M4 13 = upd (M 13) Wn x1 := by rw [eM4, va_up_ne _ _ (by omega), hq13]
  have hq15 : M5 13 = upd (M 13) Wn x1 := by rw [eM5, va_up_ne _ _ (by omega), hq14]
  have hq16 : M1 14 = M 14 := by rw [eM1, va_up_ne _ _ (by omega)]
  have hq17 : M2 14 = upd (M 14) Wn x2 := by rw [eM2, va_up_self, hq16]
  have hq18 : M3 14 = upd (M 14) Wn x2 := by rw [eM3, va_up_ne _ _ (by omega), hq17]
  have hq19 : M4 14 = upd (M 14) Wn x2 := by rw [eM4, va_up_ne _ _ (by omega), hq18]
  have hq20 : M5 14 = upd (M 14) Wn x2 := by rw [eM5, va_up_ne _ _ (by omega), hq19]
  have hq21 : M1 15 = M 15 := by rw [eM1, va_up_ne _ _ (by omega)]
  have hq22 : M2 15 = M 15 := by rw [eM2, va_up_ne _ _ (by omega), hq21]
  have hq23 : M3 15 = upd (M 15) Wn x3 := by rw [eM3, va_up_self, hq22]
  have hq24 : M4 15 = upd (M 15) Wn x3 := by rw [eM4, va_up_ne _ _ (by omega), hq23]
  have hq25 : M5 15 = upd (M 15) Wn x3 := by rw [eM5, va_up_ne _ _ (by omega), hq24]
  have hq26 : M1 16 = M 16 := by rw [eM1, va_up_ne _ _ (by omega)]
  have hq27 : M2 16 = M 16 := by rw [eM2, va_up_ne _ _ (by omega), hq26]
  have hq28 : M3 16 = M 16 := by rw [eM3, va_up_ne _ _ (by omega), hq27]
  have hq29 : M4 16 = upd (M 16) Wn x4 := by rw [eM4, va_up_self, hq28]
  have hq30 : M5 16 = upd (M 16) Wn x4 := by rw [eM5, va_up_ne _ _ (by omega), hq29]
  exact m_reti S hr hlocks hw dX6_tell_49 ⟨rfl, hq10, hq15, hq20, hq25, hq30, (by rw [eM5]; exact Fr.up (by rw [eM4]; exact Fr.up (by rw [eM3]; exact Fr.up (by rw [eM2]; exact Fr.up (by rw [eM1]; exact Fr.up Fr.rf (by omega) (by omega)) (by omega) (by omega)) (by omega) (by omega)) (by omega) (by omega)) (by omega) (by omega))⟩

set_option maxHeartbeats 4000000 in
set_option maxRecDepth 100000 in
/-- Wishes.keep -/
theorem c_X6_keep (l : Launch) (G : GT) (N K : Nat) (ad : Nat → Nat) (M : Mem) (h34 : 34 ≤ N) (Wn : Nat) (hWn : M 12 0 = nI Wn) (hW20 : Wn ≤ 20) (hwt : ∀ w, w < Wn → inB (M 13 w) 48 = true) : CmV l G N K ad yX6_keep cX6_keep 3 2 44 [.ref (ad 12), .ref (ad 20)] M (fun M1 => M1 32 = keepF (M 32) (wantS (M 13) (M 14) (M 16) (M 29)) (M 20 0) Wn ∧ Fr 32 33 M M1) := by
  refine cm_startV (by decide +kernel) (Nat.le_of_ble_eq_true rfl) ?_
  intro p e s m below meth c ls S hr hlocks hw hl
  have hl : lv_has ls 3 [(0, .ref (ad 12)), (1, .ref (ad 20))] := hl
  generalize hAv : List.toArray ([.ref (ad 12), .ref (ad 20)] : List Value) = A at S ⊢
  have loop : ∀ (n : Nat) (i : Nat), i + n = Wn → ∀ (M2 : Mem) (H : Heap) (locs : List Loc) (ls : Array Slot), (M2 32 = keepF (M 32) (wantS (M 13) (M 14) (M 16) (M 29)) (M 20 0) i ∧ Fr 32 33 M M2) → Wd G N K ad M2 s H locs → lv_has ls 3 [(0, .ref (ad 12)), (1, .ref (ad 20)), (2, .int (nI i))] → W p l e { frames := 2, cells := 0, slots := 0, locals := 44 } s m A below meth c H locs 0 0 (QmV G N K ad (fun M1 => M1 32 = keepF (M 32) (wantS (M 13) (M 14) (M 16) (M 29)) (M 20 0) Wn ∧ Fr 32 33 M M1) below A s) (F0 m 2 ls []) := by
    intro n
    induction n with
    | zero =>
      intro i hi M2 H locs ls hv hw hl
      have hWn2 : M2 12 0 = nI Wn := by rw [hv.2 12 (by omega)]; exact hWn
      refine lv_iload_n S.1 S.2.1 dX6_keep_2 rfl (lv_at hl 2 rfl) ?_
      refine lv_aload_n S.1 S.2.1 dX6_keep_3 rfl (lv_at hl 0 rfl) ?_
      refine m_getI 12 0 S hw (by omega) rfl rfl rfl in_X6 (by decide) wf_X6_9 dX6_keep_4 ?_
      refine m_top (show M2 12 0 = nI Wn from hWn2) ?_
      refine n_ge (tgt := 48) S (by omega) (by omega) dX6_keep_7 (by decide) (fun c1 => ?_) (fun c1 => absurd c1 (by omega))
      exact m_retv S hr hlocks hw dX6_keep_48 (by rw [show i = Wn by omega] at hv; exact hv)
    | succ n ih =>
      intro i hi M2 H locs ls hv hw hl
      have hWn2 : M2 12 0 = nI Wn := by rw [hv.2 12 (by omega)]; exact hWn
      have hwt2 : ∀ w, w < Wn → inB (M2 13 w) 48 = true := by rw [hv.2 13 (by omega)]; exact hwt
      have hke : M2 32 i = M 32 i := by rw [hv.1]; exact keepF_at
      have hwa : wantS (M2 13) (M2 14) (M2 16) (M2 29) = wantS (M 13) (M 14) (M 16) (M 29) := by rw [hv.2 13 (by omega), hv.2 14 (by omega), hv.2 16 (by omega), hv.2 29 (by omega)]
      have hti : M2 20 0 = M 20 0 := by rw [hv.2 20 (by omega)]
      refine lv_iload_n S.1 S.2.1 dX6_keep_2 rfl (lv_at hl 2 rfl) ?_
      refine lv_aload_n S.1 S.2.1 dX6_keep_3 rfl (lv_at hl 0 rfl) ?_
      refine m_getI 12 0 S hw (by omega) rfl rfl rfl in_X6 (by decide) wf_X6_9 dX6_keep_4 ?_
      refine m_top (show M2 12 0 = nI Wn from hWn2) ?_
      refine n_ge (tgt := 48) S (by omega) (by omega) dX6_keep_7 (by decide) (fun c11 => absurd c11 (by omega)) (fun c11 => ?_)
      refine lv_aload_n S.1 S.2.1 dX6_keep_10 rfl (lv_at hl 1 rfl) ?_
      refine m_getR 20 6 32 S hw (by omega) rfl rfl rfl in_X1 (by decide) wf_X6_39 dX6_keep_11 ?_
      refine lv_iload_n S.1 S.2.1 dX6_keep_14 rfl (lv_at hl 2 rfl) ?_
      refine m_ald 32 i S hw (by omega) rfl (by decide) (by omega) rfl dX6_keep_15 ?_
      refine m_top (show M2 32 i = M 32 i from hke) ?_
      refine lv_iconst (v := (-1)) S.1 S.2.1 dX6_keep_16 (by decide) ?_
      refine lv_icmp_ne (tgt := 42) S.1 S.2.1 dX6_keep_17 (by decide) (fun c12 => ?_) (fun c12 => ?_)
      · refine lv_iinc (v := nI (i + 1)) (lv' := [(2, .int (nI (i + 1))), (0, .ref (ad 12)), (1, .ref (ad 20))]) S.1 S.2.1 dX6_keep_42 hl (k := 2) rfl (iinc1 _) (by decide) rfl (fun ls hl => ?_)
        refine lv_goto (tgt := 2) S.1 S.2.1 dX6_keep_45 (by decide) ?_
        exact ih (i + 1) (by omega) _ _ _ ls ⟨by rw [hv.1, keepF_f (fun q => c12 q.1)], hv.2⟩ hw (lv_sub hl [1, 2, 0] rfl)
      · refine lv_aload_n S.1 S.2.1 dX6_keep_20 rfl (lv_at hl 0 rfl) ?_
        refine lv_iload_n S.1 S.2.1 dX6_keep_21 rfl (lv_at hl 2 rfl) ?_
        refine lv_aload_n S.1 S.2.1 dX6_keep_22 rfl (lv_at hl 1 rfl) ?_
        refine m_getR 20 4 26 S hw (by omega) rfl rfl rfl in_X1 (by decide) wf_X6_44 dX6_keep_23 ?_
        refine r_VI (As := [.int (nI i), .ref (ad 26)]) (rest := []) 12 S hw (by omega) rfl rfl (c_X6_wanting l G N K ad M2 h34 Wn hWn2 hW20 hwt2 i (by omega)) mf_X6_wanting wm_X6_48 ⟨by decide, by decide⟩ ⟨Nat.le_refl _, Nat.le_refl _⟩ hl.1 rfl (Nat.le_of_ble_eq_true rfl) dX6_keep_26 (fun H locs hw => ?_)
        refine lv_if_ne (tgt := 42) S.1 S.2.1 dX6_keep_29 (by decide) (fun c13 => ?_) (fun c13 => ?_)
        · refine lv_iinc (v := nI (i + 1)) (lv' := [(2, .int (nI (i + 1))), (0, .ref (ad 12)), (1, .ref (ad 20))]) S.1 S.2.1 dX6_keep_42 hl (k := 2) rfl (iinc1 _) (by decide) rfl (fun ls hl => ?_)
          refine lv_goto (tgt := 2) S.1 S.2.1 dX6_keep_45 (by decide) ?_
          exact ih (i + 1) (by omega) _ _ _ ls ⟨by rw [hv.1, keepF_f (fun q => c13 (by rw [hwa]; exact q.2))], hv.2⟩ hw (lv_sub hl [1, 2, 0] rfl)
        · refine lv_aload_n S.1 S.2.1 dX6_keep_32 rfl (lv_at hl 1 rfl) ?_
          refine m_getR 20 6 32 S hw (by omega) rfl rfl rfl in_X1 (by decide) wf_X6_39 dX6_keep_33 ?_
          refine lv_iload_n S.1 S.2.1 dX6_keep_36 rfl (lv_at hl 2 rfl) ?_
          refine lv_aload_n S.1 S.2.1 dX6_keep_37 rfl (lv_at hl 1 rfl) ?_
          refine m_getI 20 0 S hw (by omega) rfl rfl rfl in_X1 (by decide) wf_X6_52 dX6_keep_38 ?_
          refine m_top (show M2 20 0 = M 20 0 from hti) ?_
          refine n_ast 32 i S hw (by omega) rfl (by decide) (by omega) rfl dX6_keep_41 (fun M14 H locs eM14 hw => ?_)
          refine lv_iinc (v := nI (i + 1)) (lv' := [(2, .int (nI (i + 1))), (0, .ref (ad 12)), (1, .ref (ad 20))]) S.1 S.2.1 dX6_keep_42 hl (k := 2) rfl (iinc1 _) (by decide) rfl (fun ls hl => ?_)
          refine lv_goto (tgt := 2) S.1 S.2.1 dX6_keep_45 (by decide) ?_
          exact ih (i + 1) (by omega) _ _ _ ls ⟨by rw [eM14, va_up_self, hv.1, keepF_t c12 (by rw [← hwa]; exact c13)], by rw [eM14]; exact Fr.up hv.2 (by omega) (by omega)⟩ hw (lv_sub hl [1, 2, 0] rfl)
  refine lv_iconst (v := nI 0) S.1 S.2.1 dX6_keep_0 (by decide) ?_
  refine lv_istore_n (lv' := [(2, .int (nI 0)), (0, .ref (ad 12)), (1, .ref (ad 20))]) S.1 S.2.1 dX6_keep_1 rfl hl (by decide) rfl (fun ls hl => ?_)
  exact loop Wn 0 (by omega) _ _ _ ls ⟨(keepF_0 _ _ _).symm, Fr.rf⟩ hw (lv_sub hl [1, 2, 0] rfl)

set_option maxHeartbeats 4000000 in
set_option maxRecDepth 100000 in
/-- Wishes.lateBy -/
theorem c_X6_lateBy (l : Launch) (G : GT) (N K : Nat) (ad : Nat → Nat) (M : Mem) (h34 : 34 ≤ N) (w : Nat) (hw1 : w < 20) : CrI l G N K ad yX6_lateBy cX6_lateBy 4 .int 1 21 [.ref (ad 12), .int (nI w), .ref (ad 20)] M (lateS (M 32) (M 15) (M 20 0) w) := by
  refine cm_startI (by decide +kernel) (Nat.le_of_ble_eq_true rfl) ?_
  intro p e s m below meth c ls S hr hlocks hw hl
  have hl : lv_has ls 4 [(0, .ref (ad 12)), (1, .int (nI w)), (2, .ref (ad 20))] := hl
  refine lv_aload_n S.1 S.2.1 dX6_lateBy_0 rfl (lv_at hl 2 rfl) ?_
  refine m_getR 20 6 32 S hw (by omega) rfl rfl rfl in_X1 (by decide) wf_X6_39 dX6_lateBy_1 ?_
  refine lv_iload_n S.1 S.2.1 dX6_lateBy_4 rfl (lv_at hl 1 rfl) ?_
  refine m_ald 32 w S hw (by omega) rfl (by decide) (by omega) rfl dX6_lateBy_5 ?_
  refine lv_iconst (v := (-1)) S.1 S.2.1 dX6_lateBy_6 (by decide) ?_
  refine lv_icmp_ne (tgt := 17) S.1 S.2.1 dX6_lateBy_7 (by decide) (fun c1 => ?_) (fun c1 => ?_)
  · refine lv_aload_n S.1 S.2.1 dX6_lateBy_17 rfl (lv_at hl 2 rfl) ?_
    refine m_getR 20 6 32 S hw (by omega) rfl rfl rfl in_X1 (by decide) wf_X6_39 dX6_lateBy_18 ?_
    refine lv_iload_n S.1 S.2.1 dX6_lateBy_21 rfl (lv_at hl 1 rfl) ?_
    refine m_ald 32 w S hw (by omega) rfl (by decide) (by omega) rfl dX6_lateBy_22 ?_
    refine lv_istore_n (lv' := [(3, .int (M 32 w)), (0, .ref (ad 12)), (1, .int (nI w)), (2, .ref (ad 20))]) S.1 S.2.1 dX6_lateBy_23 rfl hl (by decide) rfl (fun ls hl => ?_)
    refine lv_iconst (v := nI 0) S.1 S.2.1 dX6_lateBy_24 (by decide) ?_
    refine lv_iload_n S.1 S.2.1 dX6_lateBy_25 rfl (lv_at hl 0 rfl) ?_
    refine lv_aload_n S.1 S.2.1 dX6_lateBy_26 rfl (lv_at hl 1 rfl) ?_
    refine m_getR 12 3 15 S hw (by omega) rfl rfl rfl in_X6 (by decide) wf_X6_22 dX6_lateBy_27 ?_
    refine lv_iload_n S.1 S.2.1 dX6_lateBy_30 rfl (lv_at hl 2 rfl) ?_
    refine m_ald 15 w S hw (by omega) rfl (by decide) (by omega) rfl dX6_lateBy_31 ?_
    refine lv_isub S.1 S.2.1 dX6_lateBy_32 ?_
    refine va_mmax S.1 S.2.1 (S.2.2.1.trans hl.1.symm) S.2.2.2.1 (S.2.2.2.2 _ wm_X6_33) (S.2.2.2.2 _ wt_max) (S.2.2.2.2 _ wn_J9) (S.2.2.2.2 _ wc_max) (by decide) (Nat.le_of_ble_eq_true rfl) (by decide) (by decide) dX6_lateBy_33 ?_
    exact m_reti S hr hlocks hw dX6_lateBy_36 ⟨by simp only [lateS, eqB_f c1, Bool.false_eq_true, if_false], rfl⟩
  · refine lv_aload_n S.1 S.2.1 dX6_lateBy_10 rfl (lv_at hl 2 rfl) ?_
    refine m_getI 20 0 S hw (by omega) rfl rfl rfl in_X1 (by decide) wf_X6_52 dX6_lateBy_11 ?_
    refine lv_goto (tgt := 23) S.1 S.2.1 dX6_lateBy_14 (by decide) ?_
    refine lv_istore_n (lv' := [(3, .int (M 20 0)), (0, .ref (ad 12)), (1, .int (nI w)), (2, .ref (ad 20))]) S.1 S.2.1 dX6_lateBy_23 rfl hl (by decide) rfl (fun ls hl => ?_)
    refine lv_iconst (v := nI 0) S.1 S.2.1 dX6_lateBy_24 (by decide) ?_
    refine lv_iload_n S.1 S.2.1 dX6_lateBy_25 rfl (lv_at hl 0 rfl) ?_
    refine lv_aload_n S.1 S.2.1 dX6_lateBy_26 rfl (lv_at hl 1 rfl) ?_
    refine m_getR 12 3 15 S hw (by omega) rfl rfl rfl in_X6 (by decide) wf_X6_22 dX6_lateBy_27 ?_
    refine lv_iload_n S.1 S.2.1 dX6_lateBy_30 rfl (lv_at hl 2 rfl) ?_
    refine m_ald 15 w S hw (by omega) rfl (by decide) (by omega) rfl dX6_lateBy_31 ?_
    refine lv_isub S.1 S.2.1 dX6_lateBy_32 ?_
    refine va_mmax S.1 S.2.1 (S.2.2.1.trans hl.1.symm) S.2.2.2.1 (S.2.2.2.2 _ wm_X6_33) (S.2.2.2.2 _ wt_max) (S.2.2.2.2 _ wn_J9) (S.2.2.2.2 _ wc_max) (by decide) (Nat.le_of_ble_eq_true rfl) (by decide) (by decide) dX6_lateBy_33 ?_
    exact m_reti S hr hlocks hw dX6_lateBy_36 ⟨by simp only [lateS, eqB_t c1, if_true], rfl⟩

set_option maxHeartbeats 4000000 in
set_option maxRecDepth 100000 in
/-- Wishes.lateByAll -/
theorem c_X6_lateByAll (l : Launch) (G : GT) (N K : Nat) (ad : Nat → Nat) (M : Mem) (h34 : 34 ≤ N) (Wn : Nat) (hWn : M 12 0 = nI Wn) (hW20 : Wn ≤ 20) : CrI l G N K ad yX6_lateByAll cX6_lateByAll 4 .int 2 44 [.ref (ad 12), .ref (ad 20)] M (sumI (lateS (M 32) (M 15) (M 20 0)) Wn) := by
  refine cm_startI (by decide +kernel) (Nat.le_of_ble_eq_true rfl) ?_
  intro p e s m below meth c ls S hr hlocks hw hl
  have hl : lv_has ls 4 [(0, .ref (ad 12)), (1, .ref (ad 20))] := hl
  generalize hAv : List.toArray ([.ref (ad 12), .ref (ad 20)] : List Value) = A at S ⊢
  have loop : ∀ (n : Nat) (i : Nat), i + n = Wn → ∀ (H : Heap) (locs : List Loc) (ls : Array Slot), Wd G N K ad M s H locs → lv_has ls 4 [(0, .ref (ad 12)), (1, .ref (ad 20)), (2, .int (sumI (lateS (M 32) (M 15) (M 20 0)) i)), (3, .int (nI i))] → W p l e { frames := 2, cells := 0, slots := 0, locals := 44 } s m A below meth c H locs 0 0 (QmI G N K ad (fun r M' => r = (sumI (lateS (M 32) (M 15) (M 20 0)) Wn) ∧ M' = M) below A s) (F0 m 4 ls []) := by
    intro n
    induction n with
    | zero =>
      intro i hi H locs ls hw hl
      refine lv_iload_n S.1 S.2.1 dX6_lateByAll_4 rfl (lv_at hl 3 rfl) ?_
      refine lv_aload_n S.1 S.2.1 dX6_lateByAll_5 rfl (lv_at hl 0 rfl) ?_
      refine m_getI 12 0 S hw (by omega) rfl rfl rfl in_X6 (by decide) wf_X6_9 dX6_lateByAll_6 ?_
      refine m_top (show M 12 0 = nI Wn from hWn) ?_
      refine n_ge (tgt := 27) S (by omega) (by omega) dX6_lateByAll_9 (by decide) (fun c1 => ?_) (fun c1 => absurd c1 (by omega))
      refine lv_iload_n S.1 S.2.1 dX6_lateByAll_27 rfl (lv_at hl 2 rfl) ?_
      exact m_reti S hr hlocks hw dX6_lateByAll_28 ⟨by rw [show i = Wn by omega], rfl⟩
    | succ n ih =>
      intro i hi H locs ls hw hl
      refine lv_iload_n S.1 S.2.1 dX6_lateByAll_4 rfl (lv_at hl 3 rfl) ?_
      refine lv_aload_n S.1 S.2.1 dX6_lateByAll_5 rfl (lv_at hl 0 rfl) ?_
      refine m_getI 12 0 S hw (by omega) rfl rfl rfl in_X6 (by decide) wf_X6_9 dX6_lateByAll_6 ?_
      refine m_top (show M 12 0 = nI Wn from hWn) ?_
      refine n_ge (tgt := 27) S (by omega) (by omega) dX6_lateByAll_9 (by decide) (fun c1 => absurd c1 (by omega)) (fun c1 => ?_)
      refine lv_iload_n S.1 S.2.1 dX6_lateByAll_12 rfl (lv_at hl 2 rfl) ?_
      refine lv_aload_n S.1 S.2.1 dX6_lateByAll_13 rfl (lv_at hl 0 rfl) ?_
      refine lv_iload_n S.1 S.2.1 dX6_lateByAll_14 rfl (lv_at hl 3 rfl) ?_
      refine lv_aload_n S.1 S.2.1 dX6_lateByAll_15 rfl (lv_at hl 1 rfl) ?_
      refine r_VI (As := [.int (nI i), .ref (ad 20)]) (rest := [.int (sumI (lateS (M 32) (M 15) (M 20 0)) i)]) 12 S hw (by omega) rfl rfl (c_X6_lateBy l G N K ad M h34 i (by omega)) mf_X6_lateBy wm_X6_55 ⟨by decide, by decide⟩ ⟨Nat.le_refl _, Nat.le_refl _⟩ hl.1 rfl (Nat.le_of_ble_eq_true rfl) dX6_lateByAll_16 (fun H locs hw => ?_)
      refine lv_iadd S.1 S.2.1 dX6_lateByAll_19 ?_
      refine lv_istore_n (lv' := [(2, .int ((sumI (lateS (M 32) (M 15) (M 20 0)) i) + (lateS (M 32) (M 15) (M 20 0) i))), (0, .ref (ad 12)), (1, .ref (ad 20)), (3, .int (nI i))]) S.1 S.2.1 dX6_lateByAll_20 rfl hl (by decide) rfl (fun ls hl => ?_)
      refine lv_iinc (v := nI (i + 1)) (lv' := [(3, .int (nI (i + 1))), (2, .int ((sumI (lateS (M 32) (M 15) (M 20 0)) i) + (lateS (M 32) (M 15) (M 20 0) i))), (0, .ref (ad 12)), (1, .ref (ad 20))]) S.1 S.2.1 dX6_lateByAll_21 hl (k := 3) rfl (iinc1 _) (by decide) rfl (fun ls hl => ?_)
      refine lv_goto (tgt := 4) S.1 S.2.1 dX6_lateByAll_24 (by decide) ?_
      exact ih (i + 1) (by omega) _ _ ls hw (lv_sub hl [2, 3, 1, 0] rfl)
  refine lv_iconst (v := nI 0) S.1 S.2.1 dX6_lateByAll_0 (by decide) ?_
  refine lv_istore_n (lv' := [(2, .int (nI 0)), (0, .ref (ad 12)), (1, .ref (ad 20))]) S.1 S.2.1 dX6_lateByAll_1 rfl hl (by decide) rfl (fun ls hl => ?_)
  refine lv_iconst (v := nI 0) S.1 S.2.1 dX6_lateByAll_2 (by decide) ?_
  refine lv_istore_n (lv' := [(3, .int (nI 0)), (2, .int (nI 0)), (0, .ref (ad 12)), (1, .ref (ad 20))]) S.1 S.2.1 dX6_lateByAll_3 rfl hl (by decide) rfl (fun ls hl => ?_)
  exact loop Wn 0 (by omega) _ _ ls hw (lv_sub hl [2, 3, 1, 0] rfl)

set_option maxHeartbeats 4000000 in
set_option maxRecDepth 100000 in
/-- Moment.renew -/
theorem c_X1_renew (l : Launch) (G : GT) (N K : Nat) (ad : Nat → Nat) (M : Mem) (mb : Nat) (hm : IsM N K mb) (n : Nat) (hn1 : n ≤ 120) : CmV l G N K ad yX1_renew cX1_renew 2 2 45 [.ref (ad mb), .int (nI n)] M (fun M1 => M1 mb 0 = nI 0 ∧ M1 mb 1 = nI 0 ∧ M1 mb 2 = nI 1 ∧ M1 (mb + 1) = (upd (M (mb + 1)) 0 (nI n)) ∧ M1 (mb + 2) = (fun j => if j < n then nI 0 else M (mb + 2) j) ∧ M1 (mb + 3) = (fun j => if j < n then nI 0 else M (mb + 3) j) ∧ M1 (mb + 4) = (fun j => if j < n then (-1) else M (mb + 4) j) ∧ M1 (mb + 5) = (fun j => if j < n then nI 0 else M (mb + 5) j) ∧ M1 (mb + 7) = (M (mb + 7)) ∧ M1 (mb + 8) = (M (mb + 8)) ∧ M1 (mb + 9) = (M (mb + 9)) ∧ M1 (mb + 10) = (fun j => if j < 6 then nI 0 else M (mb + 10) j) ∧ M1 (mb + 11) = (upd (M (mb + 11)) 0 (nI 0)) ∧ M1 (mb + 12) = (M (mb + 12)) ∧ Fr mb (mb + 13) M M1) := by
  refine cm_startV (by decide +kernel) (Nat.le_of_ble_eq_true rfl) ?_
  intro p e s m below meth c ls S hr hlocks hw hl
  have hl : lv_has ls 2 [(0, .ref (ad mb)), (1, .int (nI n))] := hl
  have hlt_mb := hm.lt
  refine lv_aload_n S.1 S.2.1 dX1_renew_0 rfl (lv_at hl 0 rfl) ?_
  refine lv_iconst (v := nI 0) S.1 S.2.1 dX1_renew_1 (by decide) ?_
  refine n_putI mb 0 S hw (by omega) hm.s0 rfl rfl in_X1 tyX1_ok nmX1 (by decide) rfl rfl wf_X1_9 dX1_renew_2 (fun M1 H locs eM1 hw => ?_)
  refine lv_aload_n S.1 S.2.1 dX1_renew_5 rfl (lv_at hl 0 rfl) ?_
  refine lv_iconst (v := nI 0) S.1 S.2.1 dX1_renew_6 (by decide) ?_
  refine n_putI mb 1 S hw (by omega) hm.s0 rfl rfl in_X1 tyX1_ok nmX1 (by decide) rfl rfl wf_X1_15 dX1_renew_7 (fun M2 H locs eM2 hw => ?_)
  refine lv_aload_n S.1 S.2.1 dX1_renew_10 rfl (lv_at hl 0 rfl) ?_
  refine lv_iconst (v := nI 1) S.1 S.2.1 dX1_renew_11 (by decide) ?_
  refine n_putI mb 2 S hw (by omega) hm.s0 rfl rfl in_X1 tyX1_ok nmX1 (by decide) rfl rfl wf_X1_18 dX1_renew_12 (fun M3 H locs eM3 hw => ?_)
  refine lv_aload_n S.1 S.2.1 dX1_renew_15 rfl (lv_at hl 0 rfl) ?_
  refine m_getR mb 5 (mb + 11) S hw (by omega) hm.s0 rfl rfl in_X1 (by decide) wf_X1_35 dX1_renew_16 ?_
  refine lv_iconst (v := nI 0) S.1 S.2.1 dX1_renew_19 (by decide) ?_
  refine lv_iconst (v := nI 0) S.1 S.2.1 dX1_renew_20 (by decide) ?_
  refine n_ast (mb + 11) 0 S hw (by omega) hm.s11 (by decide) (by omega) rfl dX1_renew_21 (fun M4 H locs eM4 hw => ?_)
  refine lv_aload_n S.1 S.2.1 dX1_renew_22 rfl (lv_at hl 0 rfl) ?_
  refine m_getR mb 3 (mb + 1) S hw (by omega) hm.s0 rfl rfl in_X1 (by decide) wf_X1_24 dX1_renew_23 ?_
  refine lv_iload_n S.1 S.2.1 dX1_renew_26 rfl (lv_at hl 1 rfl) ?_
  refine m_VV (As := [.int (nI n)]) (rest := []) (mb + 1) S hw (by omega) hm.s1 rfl (c_X2_renew l G N K ad M4 mb hm n (by omega)) mf_X2_renew wm_X1_42 ⟨by decide, by decide⟩ ⟨Nat.le_refl _, Nat.le_refl _⟩ hl.1 rfl (Nat.le_of_ble_eq_true rfl) dX1_renew_27 (fun M5 H locs hp5 hw => ?_)
  have emb_1_5 : M5 (mb + 1) = (upd (M4 (mb + 1)) 0 (nI n)) := hp5.1
  have emb_2_5 : M5 (mb + 2) = (fun j => if j < n then nI 0 else M4 (mb + 2) j) := hp5.2.1
  have emb_3_5 : M5 (mb + 3) = (fun j => if j < n then nI 0 else M4 (mb + 3) j) := hp5.2.2.1
  have emb_4_5 : M5 (mb + 4) = (fun j => if j < n then (-1) else M4 (mb + 4) j) := hp5.2.2.2.1
  have emb_5_5 : M5 (mb + 5) = (fun j => if j < n then nI 0 else M4 (mb + 5) j) := hp5.2.2.2.2.1
  have fr5 : Fr (mb + 1) (mb + 6) M4 M5 := hp5.2.2.2.2.2
  refine lv_aload_n S.1 S.2.1 dX1_renew_30 rfl (lv_at hl 0 rfl) ?_
  refine m_getR mb 4 (mb + 6) S hw (by omega) hm.s0 rfl rfl in_X1 (by decide) wf_X1_31 dX1_renew_31 ?_
  refine m_VV (As := []) (rest := []) (mb + 6) S hw (by omega) hm.s6 rfl (c_X4_clear l G N K ad M5 mb hm) mf_X4_clear wm_X1_46 ⟨by decide, by decide⟩ ⟨Nat.le_refl _, Nat.le_refl _⟩ hl.1 rfl (Nat.le_of_ble_eq_true rfl) dX1_renew_34 (fun M6 H locs hp6 hw => ?_)
  have emb_7_6 : M6 (mb + 7) = (M5 (mb + 7)) := hp6.1
  have emb_8_6 : M6 (mb + 8) = (M5 (mb + 8)) := hp6.2.1
  have emb_9_6 : M6 (mb + 9) = (M5 (mb + 9)) := hp6.2.2.1
  have emb_10_6 : M6 (mb + 10) = (fun j => if j < 6 then nI 0 else M5 (mb + 10) j) := hp6.2.2.2.1
  have fr6 : Fr (mb + 6) (mb + 11) M5 M6 := hp6.2.2.2.2
  have hq7 : M1 mb = upd (M mb) 0 (nI 0) := by rw [eM1, va_up_self]
  have hq8 : M2 mb = upd (upd (M mb) 0 (nI 0)) 1 (nI 0) := by rw [eM2, va_up_self, hq7]
  have hq9 : M3 mb = upd (upd (upd (M mb) 0 (nI 0)) 1 (nI 0)) 2 (nI 1) := by rw [eM3, va_up_self, hq8]
  have hq10 : M4 mb = upd (upd (upd (M mb) 0 (nI 0)) 1 (nI 0)) 2 (nI 1) := by rw [eM4, va_up_ne _ _ (by omega), hq9]
  have hq11 : M5 mb = upd (upd (upd (M mb) 0 (nI 0)) 1 (nI 0)) 2 (nI 1) := (fr5 mb (by omega)).trans hq10
  have hq12 : M6 mb = upd (upd (upd (M mb) 0 (nI 0)) 1 (nI 0)) 2 (nI 1) := (fr6 mb (by omega)).trans hq11
  have hq13 : M1 (mb + 1) = M (mb + 1) := by rw [eM1, va_up_ne _ _ (by omega)]
  have hq14 : M2 (mb + 1) = M (mb + 1) := by rw [eM2, va_up_ne _ _ (by omega), hq13]
  have hq15 : M3 (mb + 1) = M (mb + 1) := by rw [eM3, va_up_ne _ _ (by omega), hq14]
  have hq16 : M4 (mb + 1) = M (mb + 1) := by rw [eM4, va_up_ne _ _ (by omega), hq15]
  have hq17 : M5 (mb + 1) = upd (M (mb + 1)) 0 (nI n) := by rw [emb_1_5, hq16]
  have hq18 : M6 (mb + 1) = upd (M (mb + 1)) 0 (nI n) := (fr6 (mb + 1) (by omega)).trans hq17
  have hq19 : M1 (mb + 2) = M (mb + 2) := by rw [eM1, va_up_ne _ _ (by omega)]
  have hq20 : M2 (mb + 2) = M (mb + 2) := by rw [eM2, va_up_ne _ _ (by omega), hq19]
  have hq21 : M3 (mb + 2) = M (mb + 2) := by rw [eM3, va_up_ne _ _ (by omega), hq20]
  have hq22 : M4 (mb + 2) = M (mb + 2) := by rw [eM4, va_up_ne _ _ (by omega), hq21]
  have hq23 : M5 (mb + 2) = fun j => if j < n then nI 0 else M (mb + 2) j := by rw [emb_2_5, hq22]
  have hq24 : M6 (mb + 2) = fun j => if j < n then nI 0 else M (mb + 2) j := (fr6 (mb + 2) (by omega)).trans hq23
  have hq25 : M1 (mb + 3) = M (mb + 3) := by rw [eM1, va_up_ne _ _ (by omega)]
  have hq26 : M2 (mb + 3) = M (mb + 3) := by rw [eM2, va_up_ne _ _ (by omega), hq25]
  have hq27 : M3 (mb + 3) = M (mb + 3) := by rw [eM3, va_up_ne _ _ (by omega), hq26]
  have hq28 : M4 (mb + 3) = M (mb + 3) := by rw [eM4, va_up_ne _ _ (by omega), hq27]
  have hq29 : M5 (mb + 3) = fun j => if j < n then nI 0 else M (mb + 3) j := by rw [emb_3_5, hq28]
  have hq30 : M6 (mb + 3) = fun j => if j < n then nI 0 else M (mb + 3) j := (fr6 (mb + 3) (by omega)).trans hq29
  have hq31 : M1 (mb + 4) = M (mb + 4) := by rw [eM1, va_up_ne _ _ (by omega)]
  have hq32 : M2 (mb + 4) = M (mb + 4) := by rw [eM2, va_up_ne _ _ (by omega), hq31]
  have hq33 : M3 (mb + 4) = M (mb + 4) := by rw [eM3, va_up_ne _ _ (by omega), hq32]
  have hq34 : M4 (mb + 4) = M (mb + 4) := by rw [eM4, va_up_ne _ _ (by omega), hq33]
  have hq35 : M5 (mb + 4) = fun j => if j < n then (-1) else M (mb + 4) j := by rw [emb_4_5, hq34]
  have hq36 : M6 (mb + 4) = fun j => if j < n then (-1) else M (mb + 4) j := (fr6 (mb + 4) (by omega)).trans hq35
  have hq37 : M1 (mb + 5) = M (mb + 5) := by rw [eM1, va_up_ne _ _ (by omega)]
  have hq38 : M2 (mb + 5) = M (mb + 5) := by rw [eM2, va_up_ne _ _ (by omega), hq37]
  have hq39 : M3 (mb + 5) = M (mb + 5) := by rw [eM3, va_up_ne _ _ (by omega), hq38]
  have hq40 : M4 (mb + 5) = M (mb + 5) := by rw [eM4, va_up_ne _ _ (by omega), hq39]
  have hq41 : M5 (mb + 5) = fun j => if j < n then nI 0 else M (mb + 5) j := by rw [emb_5_5, hq40]
  have hq42 : M6 (mb + 5) = fun j => if j < n then nI 0 else M (mb + 5) j := (fr6 (mb + 5) (by omega)).trans hq41
  have hq43 : M1 (mb + 7) = M (mb + 7) := by rw [eM1, va_up_ne _ _ (by omega)]
  have hq44 : M2 (mb + 7) = M (mb + 7) := by rw [eM2, va_up_ne _ _ (by omega), hq43]
  have hq45 : M3 (mb + 7) = M (mb + 7) := by rw [eM3, va_up_ne _ _ (by omega), hq44]
  have hq46 : M4 (mb + 7) = M (mb + 7) := by rw [eM4, va_up_ne _ _ (by omega), hq45]
  have hq47 : M5 (mb + 7) = M (mb + 7) := (fr5 (mb + 7) (by omega)).trans hq46
  have hq48 : M6 (mb + 7) = M (mb + 7) := emb_7_6.trans hq47
  have hq49 : M1 (mb + 8) = M (mb + 8) := by rw [eM1, va_up_ne _ _ (by omega)]
  have hq50 : M2 (mb + 8) = M (mb + 8) := by rw [eM2, va_up_ne _ _ (by omega), hq49]
  have hq51 : M3 (mb + 8) = M (mb + 8) := by rw [eM3, va_up_ne _ _ (by omega), hq50]
  have hq52 : M4 (mb + 8) = M (mb + 8) := by rw [eM4, va_up_ne _ _ (by omega), hq51]
  have hq53 : M5 (mb + 8) = M (mb + 8) := (fr5 (mb + 8) (by omega)).trans hq52
  have hq54 : M6 (mb + 8) = M (mb + 8) := emb_8_6.trans hq53
  have hq55 : M1 (mb + 9) = M (mb + 9) := by rw [eM1, va_up_ne _ _ (by omega)]
  have hq56 : M2 (mb + 9) = M (mb + 9) := by rw [eM2, va_up_ne _ _ (by omega), hq55]
  have hq57 : M3 (mb + 9) = M (mb + 9) := by rw [eM3, va_up_ne _ _ (by omega), hq56]
  have hq58 : M4 (mb + 9) = M (mb + 9) := by rw [eM4, va_up_ne _ _ (by omega), hq57]
  have hq59 : M5 (mb + 9) = M (mb + 9) := (fr5 (mb + 9) (by omega)).trans hq58
  have hq60 : M6 (mb + 9) = M (mb + 9) := emb_9_6.trans hq59
  have hq61 : M1 (mb + 10) = M (mb + 10) := by rw [eM1, va_up_ne _ _ (by omega)]
  have hq62 : M2 (mb + 10) = M (mb + 10) := by rw [eM2, va_up_ne _ _ (by omega), hq61]
  have hq63 : M3 (mb + 10) = M (mb + 10) := by rw [eM3, va_up_ne _ _ (by omega), hq62]
  have hq64 : M4 (mb + 10) = M (mb + 10) := by rw [eM4, va_up_ne _ _ (by omega), hq63]
  have hq65 : M5 (mb + 10) = M (mb + 10) := (fr5 (mb + 10) (by omega)).trans hq64
  have hq66 : M6 (mb + 10) = fun j => if j < 6 then nI 0 else M (mb + 10) j := by rw [emb_10_6, hq65]
  have hq67 : M1 (mb + 11) = M (mb + 11) := by rw [eM1, va_up_ne _ _ (by omega)]
  have hq68 : M2 (mb + 11) = M (mb + 11) := by rw [eM2, va_up_ne _ _ (by omega), hq67]
  have hq69 : M3 (mb + 11) = M (mb + 11) := by rw [eM3, va_up_ne _ _ (by omega), hq68]
  have hq70 : M4 (mb + 11) = upd (M (mb + 11)) 0 (nI 0) := by rw [eM4, va_up_self, hq69]
  have hq71 : M5 (mb + 11) = upd (M (mb + 11)) 0 (nI 0) := (fr5 (mb + 11) (by omega)).trans hq70
  have hq72 : M6 (mb + 11) = upd (M (mb + 11)) 0 (nI 0) := (fr6 (mb + 11) (by omega)).trans hq71
  have hq73 : M1 (mb + 12) = M (mb + 12) := by rw [eM1, va_up_ne _ _ (by omega)]
  have hq74 : M2 (mb + 12) = M (mb + 12) := by rw [eM2, va_up_ne _ _ (by omega), hq73]
  have hq75 : M3 (mb + 12) = M (mb + 12) := by rw [eM3, va_up_ne _ _ (by omega), hq74]
  have hq76 : M4 (mb + 12) = M (mb + 12) := by rw [eM4, va_up_ne _ _ (by omega), hq75]
  have hq77 : M5 (mb + 12) = M (mb + 12) := (fr5 (mb + 12) (by omega)).trans hq76
  have hq78 : M6 (mb + 12) = M (mb + 12) := (fr6 (mb + 12) (by omega)).trans hq77
  exact m_retv S hr hlocks hw dX1_renew_37 ⟨(Eq.trans (congrFun hq12 0) ((pk_un (by decide)).trans ((pk_un (by decide)).trans pk_us))), (Eq.trans (congrFun hq12 1) ((pk_un (by decide)).trans pk_us)), (Eq.trans (congrFun hq12 2) pk_us), hq18, hq24, hq30, hq36, hq42, hq48, hq54, hq60, hq66, hq72, hq78, (Fr.tr (Fr.tr (by rw [eM4]; exact Fr.up (by rw [eM3]; exact Fr.up (by rw [eM2]; exact Fr.up (by rw [eM1]; exact Fr.up Fr.rf (by omega) (by omega)) (by omega) (by omega)) (by omega) (by omega)) (by omega) (by omega)) fr5 (by omega) (by omega)) fr6 (by omega) (by omega))⟩

set_option maxHeartbeats 4000000 in
set_option maxRecDepth 100000 in
/-- Moment.copyFrom -/
theorem c_X1_copyFrom (l : Launch) (G : GT) (N K : Nat) (ad : Nat → Nat) (M : Mem) (mb : Nat) (hm : IsM N K mb) (mo : Nat) (ho : IsM N K mo) (hne : mo + 12 < mb ∨ mb + 12 < mo) (n : Nat) (hn : M (mo + 1) 0 = nI n) (hn1 : n ≤ 120) (bn : Nat) (hbn : M mo 2 = nI bn) (hbn1 : bn ≤ 200) : CmV l G N K ad yX1_copyFrom cX1_copyFrom 2 2 47 [.ref (ad mb), .ref (ad mo)] M (fun M1 => M1 mb 0 = M mo 0 ∧ M1 mb 1 = M mo 1 ∧ M1 mb 2 = nI bn ∧ M1 (mb + 1) = (upd (M (mb + 1)) 0 (nI n)) ∧ M1 (mb + 2) = (va_cpy (M (mo + 2)) (M (mb + 2)) 0 0 n) ∧ M1 (mb + 3) = (va_cpy (M (mo + 3)) (M (mb + 3)) 0 0 n) ∧ M1 (mb + 4) = (va_cpy (M (mo + 4)) (M (mb + 4)) 0 0 n) ∧ M1 (mb + 5) = (va_cpy (M (mo + 5)) (M (mb + 5)) 0 0 n) ∧ M1 (mb + 7) = (va_cpy (M (mo + 7)) (M (mb + 7)) 0 0 48) ∧ M1 (mb + 8) = (va_cpy (M (mo + 8)) (M (mb + 8)) 0 0 48) ∧ M1 (mb + 9) = (va_cpy (M (mo + 9)) (M (mb + 9)) 0 0 48) ∧ M1 (mb + 10) = (va_cpy (M (mo + 10)) (M (mb + 10)) 0 0 6) ∧ M1 (mb + 11) = (va_cpy (M (mo + 11)) (M (mb + 11)) 0 0 bn) ∧ M1 (mb + 12) = (va_cpy (M (mo + 12)) (M (mb + 12)) 0 0 20) ∧ Fr mb (mb + 13) M M1) := by
  refine cm_startV (by decide +kernel) (Nat.le_of_ble_eq_true rfl) ?_
  intro p e s m below meth c ls S hr hlocks hw hl
  have hl : lv_has ls 2 [(0, .ref (ad mb)), (1, .ref (ad mo))] := hl
  have hlt_mb := hm.lt
  have hlt_mo := ho.lt
  refine lv_aload_n S.1 S.2.1 dX1_copyFrom_0 rfl (lv_at hl 0 rfl) ?_
  refine lv_aload_n S.1 S.2.1 dX1_copyFrom_1 rfl (lv_at hl 1 rfl) ?_
  refine m_getI mo 0 S hw (by omega) ho.s0 rfl rfl in_X1 (by decide) wf_X1_9 dX1_copyFrom_2 ?_
  refine n_putI mb 0 S hw (by omega) hm.s0 rfl rfl in_X1 tyX1_ok nmX1 (by decide) rfl rfl wf_X1_9 dX1_copyFrom_5 (fun M1 H locs eM1 hw => ?_)
  refine lv_aload_n S.1 S.2.1 dX1_copyFrom_8 rfl (lv_at hl 0 rfl) ?_
  refine lv_aload_n S.1 S.2.1 dX1_copyFrom_9 rfl (lv_at hl 1 rfl) ?_
  refine m_getI mo 1 S hw (by omega) ho.s0 rfl rfl in_X1 (by decide) wf_X1_15 dX1_copyFrom_10 ?_
  have hq2 : M1 mo = M mo := by rw [eM1, va_up_ne _ _ (by omega)]
  refine m_top (show M1 mo 1 = M mo 1 from congrFun hq2 1) ?_
  refine n_putI mb 1 S hw (by omega) hm.s0 rfl rfl in_X1 tyX1_ok nmX1 (by decide) rfl rfl wf_X1_15 dX1_copyFrom_13 (fun M3 H locs eM3 hw => ?_)
  refine lv_aload_n S.1 S.2.1 dX1_copyFrom_16 rfl (lv_at hl 0 rfl) ?_
  refine lv_aload_n S.1 S.2.1 dX1_copyFrom_17 rfl (lv_at hl 1 rfl) ?_
  refine m_getI mo 2 S hw (by omega) ho.s0 rfl rfl in_X1 (by decide) wf_X1_18 dX1_copyFrom_18 ?_
  have hq4 : M3 mo = M mo := by rw [eM3, va_up_ne _ _ (by omega), hq2]
  refine m_top (show M3 mo 2 = M mo 2 from congrFun hq4 2) ?_
  refine m_top (show M mo 2 = nI bn from hbn) ?_
  refine n_putI mb 2 S hw (by omega) hm.s0 rfl rfl in_X1 tyX1_ok nmX1 (by decide) rfl rfl wf_X1_18 dX1_copyFrom_21 (fun M5 H locs eM5 hw => ?_)
  refine lv_aload_n S.1 S.2.1 dX1_copyFrom_24 rfl (lv_at hl 0 rfl) ?_
  refine m_getR mb 3 (mb + 1) S hw (by omega) hm.s0 rfl rfl in_X1 (by decide) wf_X1_24 dX1_copyFrom_25 ?_
  refine lv_aload_n S.1 S.2.1 dX1_copyFrom_28 rfl (lv_at hl 1 rfl) ?_
  refine m_getR mo 3 (mo + 1) S hw (by omega) ho.s0 rfl rfl in_X1 (by decide) wf_X1_24 dX1_copyFrom_29 ?_
  have hq6 : M1 (mo + 1) = M (mo + 1) := by rw [eM1, va_up_ne _ _ (by omega)]
  have hq7 : M3 (mo + 1) = M (mo + 1) := by rw [eM3, va_up_ne _ _ (by omega), hq6]
  have hq8 : M5 (mo + 1) = M (mo + 1) := by rw [eM5, va_up_ne _ _ (by omega), hq7]
  refine m_VV (As := [.ref (ad (mo + 1))]) (rest := []) (mb + 1) S hw (by omega) hm.s1 rfl (c_X2_copyFrom l G N K ad M5 mb hm mo ho (by omega) n (by rw [hq8]; exact hn) hn1) mf_X2_copyFrom wm_X1_49 ⟨by decide, by decide⟩ ⟨Nat.le_refl _, Nat.le_refl _⟩ hl.1 rfl (Nat.le_of_ble_eq_true rfl) dX1_copyFrom_32 (fun M9 H locs hp9 hw => ?_)
  have emb_1_9 : M9 (mb + 1) = (upd (M5 (mb + 1)) 0 (nI n)) := hp9.1
  have emb_2_9 : M9 (mb + 2) = (va_cpy (M5 (mo + 2)) (M5 (mb + 2)) 0 0 n) := hp9.2.1
  have emb_3_9 : M9 (mb + 3) = (va_cpy (M5 (mo + 3)) (M5 (mb + 3)) 0 0 n) := hp9.2.2.1
  have emb_4_9 : M9 (mb + 4) = (va_cpy (M5 (mo + 4)) (M5 (mb + 4)) 0 0 n) := hp9.2.2.2.1
  have emb_5_9 : M9 (mb + 5) = (va_cpy (M5 (mo + 5)) (M5 (mb + 5)) 0 0 n) := hp9.2.2.2.2.1
  have fr9 : Fr (mb + 1) (mb + 6) M5 M9 := hp9.2.2.2.2.2
  refine lv_aload_n S.1 S.2.1 dX1_copyFrom_35 rfl (lv_at hl 0 rfl) ?_
  refine m_getR mb 4 (mb + 6) S hw (by omega) hm.s0 rfl rfl in_X1 (by decide) wf_X1_31 dX1_copyFrom_36 ?_
  refine lv_aload_n S.1 S.2.1 dX1_copyFrom_39 rfl (lv_at hl 1 rfl) ?_
  refine m_getR mo 4 (mo + 6) S hw (by omega) ho.s0 rfl rfl in_X1 (by decide) wf_X1_31 dX1_copyFrom_40 ?_
  refine m_VV (As := [.ref (ad (mo + 6))]) (rest := []) (mb + 6) S hw (by omega) hm.s6 rfl (c_X4_copyFrom l G N K ad M9 mb hm mo ho (by omega)) mf_X4_copyFrom wm_X1_53 ⟨by decide, by decide⟩ ⟨Nat.le_refl _, Nat.le_refl _⟩ hl.1 rfl (Nat.le_of_ble_eq_true rfl) dX1_copyFrom_43 (fun M10 H locs hp10 hw => ?_)
  have emb_7_10 : M10 (mb + 7) = (va_cpy (M9 (mo + 7)) (M9 (mb + 7)) 0 0 48) := hp10.1
  have emb_8_10 : M10 (mb + 8) = (va_cpy (M9 (mo + 8)) (M9 (mb + 8)) 0 0 48) := hp10.2.1
  have emb_9_10 : M10 (mb + 9) = (va_cpy (M9 (mo + 9)) (M9 (mb + 9)) 0 0 48) := hp10.2.2.1
  have emb_10_10 : M10 (mb + 10) = (va_cpy (M9 (mo + 10)) (M9 (mb + 10)) 0 0 6) := hp10.2.2.2.1
  have fr10 : Fr (mb + 6) (mb + 11) M9 M10 := hp10.2.2.2.2
  refine lv_aload_n S.1 S.2.1 dX1_copyFrom_46 rfl (lv_at hl 1 rfl) ?_
  refine m_getR mo 5 (mo + 11) S hw (by omega) ho.s0 rfl rfl in_X1 (by decide) wf_X1_35 dX1_copyFrom_47 ?_
  refine lv_iconst (v := nI 0) S.1 S.2.1 dX1_copyFrom_50 (by decide) ?_
  refine lv_aload_n S.1 S.2.1 dX1_copyFrom_51 rfl (lv_at hl 0 rfl) ?_
  refine m_getR mb 5 (mb + 11) S hw (by omega) hm.s0 rfl rfl in_X1 (by decide) wf_X1_35 dX1_copyFrom_52 ?_
  refine lv_iconst (v := nI 0) S.1 S.2.1 dX1_copyFrom_55 (by decide) ?_
  refine lv_aload_n S.1 S.2.1 dX1_copyFrom_56 rfl (lv_at hl 0 rfl) ?_
  refine m_getI mb 2 S hw (by omega) hm.s0 rfl rfl in_X1 (by decide) wf_X1_18 dX1_copyFrom_57 ?_
  have hq11 : M1 mb = upd (M mb) 0 (M mo 0) := by rw [eM1, va_up_self]
  have hq12 : M3 mb = upd (upd (M mb) 0 (M mo 0)) 1 (M mo 1) := by rw [eM3, va_up_self, hq11]
  have hq13 : M5 mb = upd (upd (upd (M mb) 0 (M mo 0)) 1 (M mo 1)) 2 (nI bn) := by rw [eM5, va_up_self, hq12]
  have hq14 : M9 mb = upd (upd (upd (M mb) 0 (M mo 0)) 1 (M mo 1)) 2 (nI bn) := (fr9 mb (by omega)).trans hq13
  have hq15 : M10 mb = upd (upd (upd (M mb) 0 (M mo 0)) 1 (M mo 1)) 2 (nI bn) := (fr10 mb (by omega)).trans hq14
  refine m_top (show M10 mb 2 = (upd (upd (upd (M mb) 0 (M mo 0)) 1 (M mo 1)) 2 (nI bn)) 2 from congrFun hq15 2) ?_
  refine m_top (show (upd (upd (upd (M mb) 0 (M mo 0)) 1 (M mo 1)) 2 (nI bn)) 2 = nI bn from pk_us) ?_
  refine n_cpy (mo + 11) (mb + 11) 0 0 bn S hl.1 wm_X1_56 hw (by omega) (by omega) ho.s11 hm.s11 (by decide) (by decide) rfl rfl rfl (by omega) (by omega) (Nat.le_of_ble_eq_true rfl) (Nat.le_of_ble_eq_true rfl) dX1_copyFrom_60 (fun M16 H locs eM16 hw => ?_)
  refine lv_aload_n S.1 S.2.1 dX1_copyFrom_63 rfl (lv_at hl 1 rfl) ?_
  refine m_getR mo 6 (mo + 12) S hw (by omega) ho.s0 rfl rfl in_X1 (by decide) wf_X1_39 dX1_copyFrom_64 ?_
  refine lv_iconst (v := nI 0) S.1 S.2.1 dX1_copyFrom_67 (by decide) ?_
  refine lv_aload_n S.1 S.2.1 dX1_copyFrom_68 rfl (lv_at hl 0 rfl) ?_
  refine m_getR mb 6 (mb + 12) S hw (by omega) hm.s0 rfl rfl in_X1 (by decide) wf_X1_39 dX1_copyFrom_69 ?_
  refine lv_iconst (v := nI 0) S.1 S.2.1 dX1_copyFrom_72 (by decide) ?_
  refine lv_bipush (v := nI 20) S.1 S.2.1 dX1_copyFrom_73 (by decide) ?_
  refine n_cpy (mo + 12) (mb + 12) 0 0 20 S hl.1 wm_X1_56 hw (by omega) (by omega) ho.s12 hm.s12 (by decide) (by decide) rfl rfl rfl (by omega) (by omega) (Nat.le_of_ble_eq_true rfl) (Nat.le_of_ble_eq_true rfl) dX1_copyFrom_75 (fun M17 H locs eM17 hw => ?_)
  have hq18 : M16 mb = upd (upd (upd (M mb) 0 (M mo 0)) 1 (M mo 1)) 2 (nI bn) := by rw [eM16, va_up_ne _ _ (by omega), hq15]
  have hq19 : M17 mb = upd (upd (upd (M mb) 0 (M mo 0)) 1 (M mo 1)) 2 (nI bn) := by rw [eM17, va_up_ne _ _ (by omega), hq18]
  have hq20 : M1 (mb + 1) = M (mb + 1) := by rw [eM1, va_up_ne _ _ (by omega)]
  have hq21 : M3 (mb + 1) = M (mb + 1) := by rw [eM3, va_up_ne _ _ (by omega), hq20]
  have hq22 : M5 (mb + 1) = M (mb + 1) := by rw [eM5, va_up_ne _ _ (by omega), hq21]
  have hq23 : M9 (mb + 1) = upd (M (mb + 1)) 0 (nI n) := by rw [emb_1_9, hq22]
  have hq24 : M10 (mb + 1) = upd (M (mb + 1)) 0 (nI n) := (fr10 (mb + 1) (by omega)).trans hq23
  have hq25 : M16 (mb + 1) = upd (M (mb + 1)) 0 (nI n) := by rw [eM16, va_up_ne _ _ (by omega), hq24]
  have hq26 : M17 (mb + 1) = upd (M (mb + 1)) 0 (nI n) := by rw [eM17, va_up_ne _ _ (by omega), hq25]
  have hq27 : M1 (mo + 2) = M (mo + 2) := by rw [eM1, va_up_ne _ _ (by omega)]
  have hq28 : M3 (mo + 2) = M (mo + 2) := by rw [eM3, va_up_ne _ _ (by omega), hq27]
  have hq29 : M5 (mo + 2) = M (mo + 2) := by rw [eM5, va_up_ne _ _ (by omega), hq28]
  have hq30 : M1 (mb + 2) = M (mb + 2) := by rw [eM1, va_up_ne _ _ (by omega)]
  have hq31 : M3 (mb + 2) = M (mb + 2) := by rw [eM3, va_up_ne _ _ (by omega), hq30]
  have hq32 : M5 (mb + 2) = M (mb + 2) := by rw [eM5, va_up_ne _ _ (by omega), hq31]
  have hq33 : M9 (mb + 2) = va_cpy (M (mo + 2)) (M (mb + 2)) 0 0 n := by rw [emb_2_9, hq29, hq32]
  have hq34 : M10 (mb + 2) = va_cpy (M (mo + 2)) (M (mb + 2)) 0 0 n := (fr10 (mb + 2) (by omega)).trans hq33
  have hq35 : M16 (mb + 2) = va_cpy (M (mo + 2)) (M (mb + 2)) 0 0 n := by rw [eM16, va_up_ne _ _ (by omega), hq34]
  have hq36 : M17 (mb + 2) = va_cpy (M (mo + 2)) (M (mb + 2)) 0 0 n := by rw [eM17, va_up_ne _ _ (by omega), hq35]
  have hq37 : M1 (mo + 3) = M (mo + 3) := by rw [eM1, va_up_ne _ _ (by omega)]
  have hq38 : M3 (mo + 3) = M (mo + 3) := by rw [eM3, va_up_ne _ _ (by omega), hq37]
  have hq39 : M5 (mo + 3) = M (mo + 3) := by rw [eM5, va_up_ne _ _ (by omega), hq38]
  have hq40 : M1 (mb + 3) = M (mb + 3) := by rw [eM1, va_up_ne _ _ (by omega)]
  have hq41 : M3 (mb + 3) = M (mb + 3) := by rw [eM3, va_up_ne _ _ (by omega), hq40]
  have hq42 : M5 (mb + 3) = M (mb + 3) := by rw [eM5, va_up_ne _ _ (by omega), hq41]
  have hq43 : M9 (mb + 3) = va_cpy (M (mo + 3)) (M (mb + 3)) 0 0 n := by rw [emb_3_9, hq39, hq42]
  have hq44 : M10 (mb + 3) = va_cpy (M (mo + 3)) (M (mb + 3)) 0 0 n := (fr10 (mb + 3) (by omega)).trans hq43
  have hq45 : M16 (mb + 3) = va_cpy (M (mo + 3)) (M (mb + 3)) 0 0 n := by rw [eM16, va_up_ne _ _ (by omega), hq44]
  have hq46 : M17 (mb + 3) = va_cpy (M (mo + 3)) (M (mb + 3)) 0 0 n := by rw [eM17, va_up_ne _ _ (by omega), hq45]
  have hq47 : M1 (mo + 4) = M (mo + 4) := by rw [eM1, va_up_ne _ _ (by omega)]
  have hq48 : M3 (mo + 4) = M (mo + 4) := by rw [eM3, va_up_ne _ _ (by omega), hq47]
  have hq49 : M5 (mo + 4) = M (mo + 4) := by rw [eM5, va_up_ne _ _ (by omega), hq48]
  have hq50 : M1 (mb + 4) = M (mb + 4) := by rw [eM1, va_up_ne _ _ (by omega)]
  have hq51 : M3 (mb + 4) = M (mb + 4) := by rw [eM3, va_up_ne _ _ (by omega), hq50]
  have hq52 : M5 (mb + 4) = M (mb + 4) := by rw [eM5, va_up_ne _ _ (by omega), hq51]
  have hq53 : M9 (mb + 4) = va_cpy (M (mo + 4)) (M (mb + 4)) 0 0 n := by rw [emb_4_9, hq49, hq52]
  have hq54 : M10 (mb + 4) = va_cpy (M (mo + 4)) (M (mb + 4)) 0 0 n := (fr10 (mb + 4) (by omega)).trans hq53
  have hq55 : M16 (mb + 4) = va_cpy (M (mo + 4)) (M (mb + 4)) 0 0 n := by rw [eM16, va_up_ne _ _ (by omega), hq54]
  have hq56 : M17 (mb + 4) = va_cpy (M (mo + 4)) (M (mb + 4)) 0 0 n := by rw [eM17, va_up_ne _ _ (by omega), hq55]
  have hq57 : M1 (mo + 5) = M (mo + 5) := by rw [eM1, va_up_ne _ _ (by omega)]
  have hq58 : M3 (mo + 5) = M (mo + 5) := by rw [eM3, va_up_ne _ _ (by omega), hq57]
  have hq59 : M5 (mo + 5) = M (mo + 5) := by rw [eM5, va_up_ne _ _ (by omega), hq58]
  have hq60 : M1 (mb + 5) = M (mb + 5) := by rw [eM1, va_up_ne _ _ (by omega)]
  have hq61 : M3 (mb + 5) = M (mb + 5) := by rw [eM3, va_up_ne _ _ (by omega), hq60]
  have hq62 : M5 (mb + 5) = M (mb + 5) := by rw [eM5, va_up_ne _ _ (by omega), hq61]
  have hq63 : M9 (mb + 5) = va_cpy (M (mo + 5)) (M (mb + 5)) 0 0 n := by rw [emb_5_9, hq59, hq62]
  have hq64 : M10 (mb + 5) = va_cpy (M (mo + 5)) (M (mb + 5)) 0 0 n := (fr10 (mb + 5) (by omega)).trans hq63
  have hq65 : M16 (mb + 5) = va_cpy (M (mo + 5)) (M (mb + 5)) 0 0 n := by rw [eM16, va_up_ne _ _ (by omega), hq64]
  have hq66 : M17 (mb + 5) = va_cpy (M (mo + 5)) (M (mb + 5)) 0 0 n := by rw [eM17, va_up_ne _ _ (by omega), hq65]
  have hq67 : M1 (mo + 7) = M (mo + 7) := by rw [eM1, va_up_ne _ _ (by omega)]
  have hq68 : M3 (mo + 7) = M (mo + 7) := by rw [eM3, va_up_ne _ _ (by omega), hq67]
  have hq69 : M5 (mo + 7) = M (mo + 7) := by rw [eM5, va_up_ne _ _ (by omega), hq68]
  have hq70 : M9 (mo + 7) = M (mo + 7) := (fr9 (mo + 7) (by omega)).trans hq69
  have hq71 : M1 (mb + 7) = M (mb + 7) := by rw [eM1, va_up_ne _ _ (by omega)]
  have hq72 : M3 (mb + 7) = M (mb + 7) := by rw [eM3, va_up_ne _ _ (by omega), hq71]
  have hq73 : M5 (mb + 7) = M (mb + 7) := by rw [eM5, va_up_ne _ _ (by omega), hq72]
  have hq74 : M9 (mb + 7) = M (mb + 7) := (fr9 (mb + 7) (by omega)).trans hq73
  have hq75 : M10 (mb + 7) = va_cpy (M (mo + 7)) (M (mb + 7)) 0 0 48 := by rw [emb_7_10, hq70, hq74]
  have hq76 : M16 (mb + 7) = va_cpy (M (mo + 7)) (M (mb + 7)) 0 0 48 := by rw [eM16, va_up_ne _ _ (by omega), hq75]
  have hq77 : M17 (mb + 7) = va_cpy (M (mo + 7)) (M (mb + 7)) 0 0 48 := by rw [eM17, va_up_ne _ _ (by omega), hq76]
  have hq78 : M1 (mo + 8) = M (mo + 8) := by rw [eM1, va_up_ne _ _ (by omega)]
  have hq79 : M3 (mo + 8) = M (mo + 8) := by rw [eM3, va_up_ne _ _ (by omega), hq78]
  have hq80 : M5 (mo + 8) = M (mo + 8) := by rw [eM5, va_up_ne _ _ (by omega), hq79]
  have hq81 : M9 (mo + 8) = M (mo + 8) := (fr9 (mo + 8) (by omega)).trans hq80
  have hq82 : M1 (mb + 8) = M (mb + 8) := by rw [eM1, va_up_ne _ _ (by omega)]
  have hq83 : M3 (mb + 8) = M (mb + 8) := by rw [eM3, va_up_ne _ _ (by omega), hq82]
  have hq84 : M5 (mb + 8) = M (mb + 8) := by rw [eM5, va_up_ne _ _ (by omega), hq83]
  have hq85 : M9 (mb + 8) = M (mb + 8) := (fr9 (mb + 8) (by omega)).trans hq84
  have hq86 : M10 (mb + 8) = va_cpy (M (mo + 8)) (M (mb + 8)) 0 0 48 := by rw [emb_8_10, hq81, hq85]
  have hq87 : M16 (mb + 8) = va_cpy (M (mo + 8)) (M (mb + 8)) 0 0 48 := by rw [eM16, va_up_ne _ _ (by omega), hq86]
  have hq88 : M17 (mb + 8) = va_cpy (M (mo + 8)) (M (mb + 8)) 0 0 48 := by rw [eM17, va_up_ne _ _ (by omega), hq87]
  have hq89 : M1 (mo + 9) = M (mo + 9) := by rw [eM1, va_up_ne _ _ (by omega)]
  have hq90 : M3 (mo + 9) = M (mo + 9) := by rw [eM3, va_up_ne _ _ (by omega), hq89]
  have hq91 : M5 (mo + 9) = M (mo + 9) := by rw [eM5, va_up_ne _ _ (by omega), hq90]
  have hq92 : M9 (mo + 9) = M (mo + 9) := (fr9 (mo + 9) (by omega)).trans hq91
  have hq93 : M1 (mb + 9) = M (mb + 9) := by rw [eM1, va_up_ne _ _ (by omega)]
  have hq94 : M3 (mb + 9) = M (mb + 9) := by rw [eM3, va_up_ne _ _ (by omega), hq93]
  have hq95 : M5 (mb + 9) = M (mb + 9) := by rw [eM5, va_up_ne _ _ (by omega), hq94]
  have hq96 : M9 (mb + 9) = M (mb + 9) := (fr9 (mb + 9) (by omega)).trans hq95
  have hq97 : M10 (mb + 9) = va_cpy (M (mo + 9)) (M (mb + 9)) 0 0 48 := by rw [emb_9_10, hq92, hq96]
  have hq98 : M16 (mb + 9) = va_cpy (M (mo + 9)) (M (mb + 9)) 0 0 48 := by rw [eM16, va_up_ne _ _ (by omega), hq97]
  have hq99 : M17 (mb + 9) = va_cpy (M (mo + 9)) (M (mb + 9)) 0 0 48 := by rw [eM17, va_up_ne _ _ (by omega), hq98]
  have hq100 : M1 (mo + 10) = M (mo + 10) := by rw [eM1, va_up_ne _ _ (by omega)]
  have hq101 : M3 (mo + 10) = M (mo + 10) := by rw [eM3, va_up_ne _ _ (by omega), hq100]
  have hq102 : M5 (mo + 10) = M (mo + 10) := by rw [eM5, va_up_ne _ _ (by omega), hq101]
  have hq103 : M9 (mo + 10) = M (mo + 10) := (fr9 (mo + 10) (by omega)).trans hq102
  have hq104 : M1 (mb + 10) = M (mb + 10) := by rw [eM1, va_up_ne _ _ (by omega)]
  have hq105 : M3 (mb + 10) = M (mb + 10) := by rw [eM3, va_up_ne _ _ (by omega), hq104]
  have hq106 : M5 (mb + 10) = M (mb + 10) := by rw [eM5, va_up_ne _ _ (by omega), hq105]
  have hq107 : M9 (mb + 10) = M (mb + 10) := (fr9 (mb + 10) (by omega)).trans hq106
  have hq108 : M10 (mb + 10) = va_cpy (M (mo + 10)) (M (mb + 10)) 0 0 6 := by rw [emb_10_10, hq103, hq107]
  have hq109 : M16 (mb + 10) = va_cpy (M (mo + 10)) (M (mb + 10)) 0 0 6 := by rw [eM16, va_up_ne _ _ (by omega), hq108]
  have hq110 : M17 (mb + 10) = va_cpy (M (mo + 10)) (M (mb + 10)) 0 0 6 := by rw [eM17, va_up_ne _ _ (by omega), hq109]
  have hq111 : M1 (mb + 11) = M (mb + 11) := by rw [eM1, va_up_ne _ _ (by omega)]
  have hq112 : M3 (mb + 11) = M (mb + 11) := by rw [eM3, va_up_ne _ _ (by omega), hq111]
  have hq113 : M5 (mb + 11) = M (mb + 11) := by rw [eM5, va_up_ne _ _ (by omega), hq112]
  have hq114 : M9 (mb + 11) = M (mb + 11) := (fr9 (mb + 11) (by omega)).trans hq113
  have hq115 : M10 (mb + 11) = M (mb + 11) := (fr10 (mb + 11) (by omega)).trans hq114
  have hq116 : M1 (mo + 11) = M (mo + 11) := by rw [eM1, va_up_ne _ _ (by omega)]
  have hq117 : M3 (mo + 11) = M (mo + 11) := by rw [eM3, va_up_ne _ _ (by omega), hq116]
  have hq118 : M5 (mo + 11) = M (mo + 11) := by rw [eM5, va_up_ne _ _ (by omega), hq117]
  have hq119 : M9 (mo + 11) = M (mo + 11) := (fr9 (mo + 11) (by omega)).trans hq118
  have hq120 : M10 (mo + 11) = M (mo + 11) := (fr10 (mo + 11) (by omega)).trans hq119
  have hq121 : M16 (mb + 11) = va_cpy (M (mo + 11)) (M (mb + 11)) 0 0 bn := by rw [eM16, va_up_self, hq120, hq115]
  have hq122 : M17 (mb + 11) = va_cpy (M (mo + 11)) (M (mb + 11)) 0 0 bn := by rw [eM17, va_up_ne _ _ (by omega), hq121]
  have hq123 : M1 (mb + 12) = M (mb + 12) := by rw [eM1, va_up_ne _ _ (by omega)]
  have hq124 : M3 (mb + 12) = M (mb + 12) := by rw [eM3, va_up_ne _ _ (by omega), hq123]
  have hq125 : M5 (mb + 12) = M (mb + 12) := by rw [eM5, va_up_ne _ _ (by omega), hq124]
  have hq126 : M9 (mb + 12) = M (mb + 12) := (fr9 (mb + 12) (by omega)).trans hq125
  have hq127 : M10 (mb + 12) = M (mb + 12) := (fr10 (mb + 12) (by omega)).trans hq126
  have hq128 : M16 (mb + 12) = M (mb + 12) := by rw [eM16, va_up_ne _ _ (by omega), hq127]
  have hq129 : M1 (mo + 12) = M (mo + 12) := by rw [eM1, va_up_ne _ _ (by omega)]
  have hq130 : M3 (mo + 12) = M (mo + 12) := by rw [eM3, va_up_ne _ _ (by omega), hq129]
  have hq131 : M5 (mo + 12) = M (mo + 12) := by rw [eM5, va_up_ne _ _ (by omega), hq130]
  have hq132 : M9 (mo + 12) = M (mo + 12) := (fr9 (mo + 12) (by omega)).trans hq131
  have hq133 : M10 (mo + 12) = M (mo + 12) := (fr10 (mo + 12) (by omega)).trans hq132
  have hq134 : M16 (mo + 12) = M (mo + 12) := by rw [eM16, va_up_ne _ _ (by omega), hq133]
  have hq135 : M17 (mb + 12) = va_cpy (M (mo + 12)) (M (mb + 12)) 0 0 20 := by rw [eM17, va_up_self, hq134, hq128]
  exact m_retv S hr hlocks hw dX1_copyFrom_78 ⟨(Eq.trans (congrFun hq19 0) ((pk_un (by decide)).trans ((pk_un (by decide)).trans pk_us))), (Eq.trans (congrFun hq19 1) ((pk_un (by decide)).trans pk_us)), (Eq.trans (congrFun hq19 2) pk_us), hq26, hq36, hq46, hq56, hq66, hq77, hq88, hq99, hq110, hq122, hq135, (by rw [eM17]; exact Fr.up (by rw [eM16]; exact Fr.up (Fr.tr (Fr.tr (by rw [eM5]; exact Fr.up (by rw [eM3]; exact Fr.up (by rw [eM1]; exact Fr.up Fr.rf (by omega) (by omega)) (by omega) (by omega)) (by omega) (by omega)) fr9 (by omega) (by omega)) fr10 (by omega) (by omega)) (by omega) (by omega)) (by omega) (by omega))⟩
end
