/-- a private method of a class that the tables say can be made, by its rows of tables_1 -/
def lw_okq (q : MethodName × Nat) : Prop := (q.1.cls ≠ "java/lang/invoke/MethodHandle" ∧ q.1.cls ≠ "java/lang/invoke/VarHandle") ∧ Cond.instantiable q.1.cls q.2 ∈ tables_1 ∧ Cond.privateMethod q.1 ∈ tables_1 ∧ Cond.instanceMethod q.1 ∈ tables_1
theorem lw_p0 : lw_okq (⟨"java/lang/Throwable", "fillInStackTrace", "(I)Ljava/lang/Throwable;"⟩, 6) := ⟨⟨by decide +kernel, by decide +kernel⟩, List.mem_of_getElem? (i := 323) (by decide +kernel), List.mem_of_getElem? (i := 321) (by decide +kernel), List.mem_of_getElem? (i := 322) (by decide +kernel)⟩
theorem lw_p1 : lw_okq (⟨"CarriedNumbers", "loseTooMany", "(II)I"⟩, 11) := ⟨⟨by decide +kernel, by decide +kernel⟩, List.mem_of_getElem? (i := 19) (by decide +kernel), List.mem_of_getElem? (i := 485) (by decide +kernel), List.mem_of_getElem? (i := 486) (by decide +kernel)⟩
theorem lw_p2 : lw_okq (⟨"CarriedNumbers", "endTalk", "(II)V"⟩, 11) := ⟨⟨by decide +kernel, by decide +kernel⟩, List.mem_of_getElem? (i := 19) (by decide +kernel), List.mem_of_getElem? (i := 507) (by decide +kernel), List.mem_of_getElem? (i := 508) (by decide +kernel)⟩
theorem lw_p3 : lw_okq (⟨"CarriedNumbers", "takeLines", "(II)V"⟩, 11) := ⟨⟨by decide +kernel, by decide +kernel⟩, List.mem_of_getElem? (i := 19) (by decide +kernel), List.mem_of_getElem? (i := 516) (by decide +kernel), List.mem_of_getElem? (i := 517) (by decide +kernel)⟩
theorem lw_p4 : lw_okq (⟨"CarriedNumbers", "settle", "(II)I"⟩, 11) := ⟨⟨by decide +kernel, by decide +kernel⟩, List.mem_of_getElem? (i := 19) (by decide +kernel), List.mem_of_getElem? (i := 605) (by decide +kernel), List.mem_of_getElem? (i := 606) (by decide +kernel)⟩
theorem lw_p5 : lw_okq (⟨"CarriedNumbers", "findWay", "(II)Z"⟩, 11) := ⟨⟨by decide +kernel, by decide +kernel⟩, List.mem_of_getElem? (i := 19) (by decide +kernel), List.mem_of_getElem? (i := 640) (by decide +kernel), List.mem_of_getElem? (i := 641) (by decide +kernel)⟩
theorem lw_p6 : lw_okq (⟨"CarriedNumbers", "beginTalk", "(II)I"⟩, 11) := ⟨⟨by decide +kernel, by decide +kernel⟩, List.mem_of_getElem? (i := 19) (by decide +kernel), List.mem_of_getElem? (i := 666) (by decide +kernel), List.mem_of_getElem? (i := 667) (by decide +kernel)⟩
theorem lw_p7 : lw_okq (⟨"CarriedNumbers", "needCall", "(I)V"⟩, 11) := ⟨⟨by decide +kernel, by decide +kernel⟩, List.mem_of_getElem? (i := 19) (by decide +kernel), List.mem_of_getElem? (i := 692) (by decide +kernel), List.mem_of_getElem? (i := 693) (by decide +kernel)⟩
theorem lw_p8 : lw_okq (⟨"CarriedNumbers", "chargeUntil", "(II)I"⟩, 11) := ⟨⟨by decide +kernel, by decide +kernel⟩, List.mem_of_getElem? (i := 19) (by decide +kernel), List.mem_of_getElem? (i := 715) (by decide +kernel), List.mem_of_getElem? (i := 716) (by decide +kernel)⟩
theorem lw_p9 : lw_okq (⟨"CarriedNumbers", "chargesAnew", "(III)I"⟩, 11) := ⟨⟨by decide +kernel, by decide +kernel⟩, List.mem_of_getElem? (i := 19) (by decide +kernel), List.mem_of_getElem? (i := 759) (by decide +kernel), List.mem_of_getElem? (i := 760) (by decide +kernel)⟩
def lw_privs_1 : List (MethodName × Nat) := [(⟨"java/lang/Throwable", "fillInStackTrace", "(I)Ljava/lang/Throwable;"⟩, 6), (⟨"CarriedNumbers", "loseTooMany", "(II)I"⟩, 11), (⟨"CarriedNumbers", "endTalk", "(II)V"⟩, 11), (⟨"CarriedNumbers", "takeLines", "(II)V"⟩, 11), (⟨"CarriedNumbers", "settle", "(II)I"⟩, 11), (⟨"CarriedNumbers", "findWay", "(II)Z"⟩, 11), (⟨"CarriedNumbers", "beginTalk", "(II)I"⟩, 11), (⟨"CarriedNumbers", "needCall", "(I)V"⟩, 11), (⟨"CarriedNumbers", "chargeUntil", "(II)I"⟩, 11), (⟨"CarriedNumbers", "chargesAnew", "(III)I"⟩, 11)]
theorem lw_r1 : ∀ q ∈ lw_privs_1, lw_okq q := List.forall_mem_cons.mpr ⟨lw_p0, List.forall_mem_cons.mpr ⟨lw_p1, List.forall_mem_cons.mpr ⟨lw_p2, List.forall_mem_cons.mpr ⟨lw_p3, List.forall_mem_cons.mpr ⟨lw_p4, List.forall_mem_cons.mpr ⟨lw_p5, List.forall_mem_cons.mpr ⟨lw_p6, List.forall_mem_cons.mpr ⟨lw_p7, List.forall_mem_cons.mpr ⟨lw_p8, List.forall_mem_cons.mpr ⟨lw_p9, fun _ h => absurd h List.not_mem_nil⟩⟩⟩⟩⟩⟩⟩⟩⟩⟩
def lw_privs : List (MethodName × Nat) := lw_privs_1
def lw_tbl : List Cond := k2_sels lw_privs ++ tables_1
theorem lw_privs_ok : ∀ q ∈ lw_privs, lw_okq q := lw_r1
def RX0 : String := "CarriedNumbers$Calls"
def TX0 : u_T := fun k => match k with
  | 0 => ("CarriedNumbers$Calls", "callers", "LCarriedNumbers$Row;", true)
  | 1 => ("CarriedNumbers$Calls", "others", "LCarriedNumbers$Row;", true)
  | 2 => ("CarriedNumbers$Calls", "begins", "LCarriedNumbers$Row;", true)
  | 3 => ("CarriedNumbers$Calls", "ends", "LCarriedNumbers$Row;", true)
  | 4 => ("CarriedNumbers$Calls", "states", "LCarriedNumbers$Row;", true)
  | 5 => ("CarriedNumbers$Calls", "charges", "LCarriedNumbers$Row;", true)
  | 6 => ("CarriedNumbers$Calls", "lengths", "LCarriedNumbers$Row;", true)
  | 7 => ("CarriedNumbers$Calls", "stops", "LCarriedNumbers$Row;", true)
  | _ => ("CarriedNumbers$Calls", "count", "I", false)
def tyX0 : Nat → FieldType := fun k => match k with
  | 0 => .object "CarriedNumbers$Row"
  | 1 => .object "CarriedNumbers$Row"
  | 2 => .object "CarriedNumbers$Row"
  | 3 => .object "CarriedNumbers$Row"
  | 4 => .object "CarriedNumbers$Row"
  | 5 => .object "CarriedNumbers$Row"
  | 6 => .object "CarriedNumbers$Row"
  | 7 => .object "CarriedNumbers$Row"
  | _ => .int
abbrev wsX00 : List Cond := u_ws RX0 TX0 9
theorem nmX0 : ∀ a, a < 9 → ∀ b, b < 9 → a ≠ b → (TX0 a).2.1 ≠ (TX0 b).2.1 := by decide +kernel
theorem tyX0_ok : ∀ k, k < 9 → parseFieldDescriptor (TX0 k).2.2.1 = some (tyX0 k) := by decide +kernel
abbrev cX0_init : ByteArray := prog_2_method_1_code
def yX0_init : MethodName := ⟨RX0, "<init>", "()V"⟩
abbrev cX0_isFull : ByteArray := prog_2_method_2_code
def yX0_isFull : MethodName := ⟨RX0, "isFull", "()Z"⟩
abbrev cX0_begin : ByteArray := prog_2_method_3_code
def yX0_begin : MethodName := ⟨RX0, "begin", "(IIILCarriedNumbers$Way;)I"⟩
abbrev cX0_end : ByteArray := prog_2_method_4_code
def yX0_end : MethodName := ⟨RX0, "end", "(III)V"⟩
abbrev cX0_goesOn : ByteArray := prog_2_method_5_code
def yX0_goesOn : MethodName := ⟨RX0, "goesOn", "(I)Z"⟩
abbrev cX0_endOf : ByteArray := prog_2_method_6_code
def yX0_endOf : MethodName := ⟨RX0, "endOf", "(II)I"⟩
abbrev cX0_lasted : ByteArray := prog_2_method_7_code
def yX0_lasted : MethodName := ⟨RX0, "lasted", "(II)I"⟩
abbrev cX0_stop : ByteArray := prog_2_method_8_code
def yX0_stop : MethodName := ⟨RX0, "stop", "(II)I"⟩
abbrev cX0_placeOf : ByteArray := prog_2_method_9_code
def yX0_placeOf : MethodName := ⟨RX0, "placeOf", "(II)I"⟩
def RX1 : String := "CarriedNumbers$Carriers"
def TX1 : u_T := fun k => match k with
  | 0 => ("CarriedNumbers$Carriers", "delays", "LCarriedNumbers$Row;", true)
  | 1 => ("CarriedNumbers$Carriers", "purses", "LCarriedNumbers$Row;", true)
  | 2 => ("CarriedNumbers$Carriers", "earnings", "LCarriedNumbers$Row;", true)
  | _ => ("CarriedNumbers$Carriers", "losses", "LCarriedNumbers$Row;", true)
def tyX1 : Nat → FieldType := fun k => match k with
  | 0 => .object "CarriedNumbers$Row"
  | 1 => .object "CarriedNumbers$Row"
  | 2 => .object "CarriedNumbers$Row"
  | _ => .object "CarriedNumbers$Row"
abbrev wsX10 : List Cond := u_ws RX1 TX1 4
theorem nmX1 : ∀ a, a < 4 → ∀ b, b < 4 → a ≠ b → (TX1 a).2.1 ≠ (TX1 b).2.1 := by decide +kernel
theorem tyX1_ok : ∀ k, k < 4 → parseFieldDescriptor (TX1 k).2.2.1 = some (tyX1 k) := by decide +kernel
abbrev cX1_init : ByteArray := prog_3_method_1_code
def yX1_init : MethodName := ⟨RX1, "<init>", "()V"⟩
abbrev cX1_give : ByteArray := prog_3_method_2_code
def yX1_give : MethodName := ⟨RX1, "give", "(III)V"⟩
abbrev cX1_payLoss : ByteArray := prog_3_method_3_code
def yX1_payLoss : MethodName := ⟨RX1, "payLoss", "(II)V"⟩
def RX2 : String := "CarriedNumbers$History"
def TX2 : u_T := fun k => match k with
  | 0 => ("CarriedNumbers$History", "keys", "LCarriedNumbers$Row;", true)
  | 1 => ("CarriedNumbers$History", "starts", "LCarriedNumbers$Row;", true)
  | 2 => ("CarriedNumbers$History", "values", "LCarriedNumbers$Row;", true)
  | _ => ("CarriedNumbers$History", "count", "I", false)
def tyX2 : Nat → FieldType := fun k => match k with
  | 0 => .object "CarriedNumbers$Row"
  | 1 => .object "CarriedNumbers$Row"
  | 2 => .object "CarriedNumbers$Row"
  | _ => .int
abbrev wsX20 : List Cond := u_ws RX2 TX2 4
theorem nmX2 : ∀ a, a < 4 → ∀ b, b < 4 → a ≠ b → (TX2 a).2.1 ≠ (TX2 b).2.1 := by decide +kernel
theorem tyX2_ok : ∀ k, k < 4 → parseFieldDescriptor (TX2 k).2.2.1 = some (tyX2 k) := by decide +kernel
abbrev cX2_init : ByteArray := prog_4_method_1_code
def yX2_init : MethodName := ⟨RX2, "<init>", "()V"⟩
abbrev cX2_isFull : ByteArray := prog_4_method_2_code
def yX2_isFull : MethodName := ⟨RX2, "isFull", "()Z"⟩
abbrev cX2_add : ByteArray := prog_4_method_3_code
def yX2_add : MethodName := ⟨RX2, "add", "(III)V"⟩
abbrev cX2_valueAt : ByteArray := prog_4_method_4_code
def yX2_valueAt : MethodName := ⟨RX2, "valueAt", "(III)I"⟩
abbrev cX2_nextAfter : ByteArray := prog_4_method_5_code
def yX2_nextAfter : MethodName := ⟨RX2, "nextAfter", "(III)I"⟩
def RX3 : String := "CarriedNumbers$Numbers"
def TX3 : u_T := fun k => match k with
  | 0 => ("CarriedNumbers$Numbers", "carriers", "LCarriedNumbers$Row;", true)
  | 1 => ("CarriedNumbers$Numbers", "owners", "LCarriedNumbers$Row;", true)
  | 2 => ("CarriedNumbers$Numbers", "debts", "LCarriedNumbers$Row;", true)
  | 3 => ("CarriedNumbers$Numbers", "payments", "LCarriedNumbers$Row;", true)
  | 4 => ("CarriedNumbers$Numbers", "bonds", "LCarriedNumbers$Row;", true)
  | 5 => ("CarriedNumbers$Numbers", "bars", "LCarriedNumbers$Row;", true)
  | _ => ("CarriedNumbers$Numbers", "talks", "LCarriedNumbers$Row;", true)
def tyX3 : Nat → FieldType := fun k => match k with
  | 0 => .object "CarriedNumbers$Row"
  | 1 => .object "CarriedNumbers$Row"
  | 2 => .object "CarriedNumbers$Row"
  | 3 => .object "CarriedNumbers$Row"
  | 4 => .object "CarriedNumbers$Row"
  | 5 => .object "CarriedNumbers$Row"
  | _ => .object "CarriedNumbers$Row"
abbrev wsX30 : List Cond := u_ws RX3 TX3 7
theorem nmX3 : ∀ a, a < 7 → ∀ b, b < 7 → a ≠ b → (TX3 a).2.1 ≠ (TX3 b).2.1 := by decide +kernel
theorem tyX3_ok : ∀ k, k < 7 → parseFieldDescriptor (TX3 k).2.2.1 = some (tyX3 k) := by decide +kernel
abbrev cX3_init : ByteArray := prog_5_method_1_code
def yX3_init : MethodName := ⟨RX3, "<init>", "()V"⟩
def RX4 : String := "CarriedNumbers$Ports"
def TX4 : u_T := fun k => match k with
  | 0 => ("CarriedNumbers$Ports", "changes", "LCarriedNumbers$History;", true)
  | _ => ("CarriedNumbers$Ports", "news", "LCarriedNumbers$Row;", true)
def tyX4 : Nat → FieldType := fun k => match k with
  | 0 => .object "CarriedNumbers$History"
  | _ => .object "CarriedNumbers$Row"
abbrev wsX40 : List Cond := u_ws RX4 TX4 2
theorem nmX4 : ∀ a, a < 2 → ∀ b, b < 2 → a ≠ b → (TX4 a).2.1 ≠ (TX4 b).2.1 := by decide +kernel
theorem tyX4_ok : ∀ k, k < 2 → parseFieldDescriptor (TX4 k).2.2.1 = some (tyX4 k) := by decide +kernel
abbrev cX4_init : ByteArray := prog_6_method_1_code
def yX4_init : MethodName := ⟨RX4, "<init>", "()V"⟩
abbrev cX4_isFull : ByteArray := prog_6_method_2_code
def yX4_isFull : MethodName := ⟨RX4, "isFull", "()Z"⟩
abbrev cX4_carry : ByteArray := prog_6_method_3_code
def yX4_carry : MethodName := ⟨RX4, "carry", "(IIIILCarriedNumbers$Row;)V"⟩
abbrev cX4_placeAt : ByteArray := prog_6_method_4_code
def yX4_placeAt : MethodName := ⟨RX4, "placeAt", "(II)I"⟩
abbrev cX4_placeKnownTo : ByteArray := prog_6_method_5_code
def yX4_placeKnownTo : MethodName := ⟨RX4, "placeKnownTo", "(III)I"⟩
def RX5 : String := "CarriedNumbers$Row"
def TX5 : u_T := fun k => match k with
  | _ => ("CarriedNumbers$Row", "cells", "[I", true)
def tyX5 : Nat → FieldType := fun k => match k with
  | _ => .array .int
abbrev wsX50 : List Cond := u_ws RX5 TX5 1
theorem nmX5 : ∀ a, a < 1 → ∀ b, b < 1 → a ≠ b → (TX5 a).2.1 ≠ (TX5 b).2.1 := by decide +kernel
theorem tyX5_ok : ∀ k, k < 1 → parseFieldDescriptor (TX5 k).2.2.1 = some (tyX5 k) := by decide +kernel
abbrev cX5_init : ByteArray := prog_7_method_1_code
def yX5_init : MethodName := ⟨RX5, "<init>", "(II)V"⟩
abbrev cX5_get : ByteArray := prog_7_method_2_code
def yX5_get : MethodName := ⟨RX5, "get", "(I)I"⟩
abbrev cX5_set : ByteArray := prog_7_method_3_code
def yX5_set : MethodName := ⟨RX5, "set", "(II)V"⟩
abbrev cX5_add : ByteArray := prog_7_method_4_code
def yX5_add : MethodName := ⟨RX5, "add", "(II)V"⟩
def RX6 : String := "CarriedNumbers$Tariffs"
def TX6 : u_T := fun k => match k with
  | 0 => ("CarriedNumbers$Tariffs", "dears", "LCarriedNumbers$History;", true)
  | _ => ("CarriedNumbers$Tariffs", "cheaps", "LCarriedNumbers$History;", true)
def tyX6 : Nat → FieldType := fun k => match k with
  | 0 => .object "CarriedNumbers$History"
  | _ => .object "CarriedNumbers$History"
abbrev wsX60 : List Cond := u_ws RX6 TX6 2
theorem nmX6 : ∀ a, a < 2 → ∀ b, b < 2 → a ≠ b → (TX6 a).2.1 ≠ (TX6 b).2.1 := by decide +kernel
theorem tyX6_ok : ∀ k, k < 2 → parseFieldDescriptor (TX6 k).2.2.1 = some (tyX6 k) := by decide +kernel
abbrev cX6_init : ByteArray := prog_8_method_1_code
def yX6_init : MethodName := ⟨RX6, "<init>", "()V"⟩
abbrev cX6_isFull : ByteArray := prog_8_method_2_code
def yX6_isFull : MethodName := ⟨RX6, "isFull", "()Z"⟩
abbrev cX6_change : ByteArray := prog_8_method_3_code
def yX6_change : MethodName := ⟨RX6, "change", "(IIII)V"⟩
abbrev cX6_dearAt : ByteArray := prog_8_method_4_code
def yX6_dearAt : MethodName := ⟨RX6, "dearAt", "(II)I"⟩
abbrev cX6_nextAfter : ByteArray := prog_8_method_5_code
def yX6_nextAfter : MethodName := ⟨RX6, "nextAfter", "(III)I"⟩
abbrev cX6_charge : ByteArray := prog_8_method_6_code
def yX6_charge : MethodName := ⟨RX6, "charge", "(III)I"⟩
abbrev cX6_dearBefore : ByteArray := prog_8_method_7_code
def yX6_dearBefore : MethodName := ⟨RX6, "dearBefore", "(I)I"⟩
def RX7 : String := "CarriedNumbers$Trunks"
def TX7 : u_T := fun k => match k with
  | 0 => ("CarriedNumbers$Trunks", "all", "LCarriedNumbers$Row;", true)
  | _ => ("CarriedNumbers$Trunks", "taken", "LCarriedNumbers$Row;", true)
def tyX7 : Nat → FieldType := fun k => match k with
  | 0 => .object "CarriedNumbers$Row"
  | _ => .object "CarriedNumbers$Row"
abbrev wsX70 : List Cond := u_ws RX7 TX7 2
theorem nmX7 : ∀ a, a < 2 → ∀ b, b < 2 → a ≠ b → (TX7 a).2.1 ≠ (TX7 b).2.1 := by decide +kernel
theorem tyX7_ok : ∀ k, k < 2 → parseFieldDescriptor (TX7 k).2.2.1 = some (tyX7 k) := by decide +kernel
abbrev cX7_init : ByteArray := prog_9_method_1_code
def yX7_init : MethodName := ⟨RX7, "<init>", "()V"⟩
abbrev cX7_between : ByteArray := prog_9_method_2_code
def yX7_between : MethodName := ⟨RX7, "between", "(II)I"⟩
abbrev cX7_change : ByteArray := prog_9_method_3_code
def yX7_change : MethodName := ⟨RX7, "change", "(III)V"⟩
abbrev cX7_take : ByteArray := prog_9_method_4_code
def yX7_take : MethodName := ⟨RX7, "take", "(III)V"⟩
abbrev cX7_left : ByteArray := prog_9_method_5_code
def yX7_left : MethodName := ⟨RX7, "left", "(II)I"⟩
def RX8 : String := "CarriedNumbers$Way"
def TX8 : u_T := fun k => match k with
  | 0 => ("CarriedNumbers$Way", "stops", "LCarriedNumbers$Row;", true)
  | _ => ("CarriedNumbers$Way", "length", "I", false)
def tyX8 : Nat → FieldType := fun k => match k with
  | 0 => .object "CarriedNumbers$Row"
  | _ => .int
abbrev wsX80 : List Cond := u_ws RX8 TX8 2
theorem nmX8 : ∀ a, a < 2 → ∀ b, b < 2 → a ≠ b → (TX8 a).2.1 ≠ (TX8 b).2.1 := by decide +kernel
theorem tyX8_ok : ∀ k, k < 2 → parseFieldDescriptor (TX8 k).2.2.1 = some (tyX8 k) := by decide +kernel
abbrev cX8_init : ByteArray := prog_10_method_1_code
def yX8_init : MethodName := ⟨RX8, "<init>", "()V"⟩
abbrev cX8_begin : ByteArray := prog_10_method_2_code
def yX8_begin : MethodName := ⟨RX8, "begin", "(I)V"⟩
abbrev cX8_goOn : ByteArray := prog_10_method_3_code
def yX8_goOn : MethodName := ⟨RX8, "goOn", "(I)V"⟩
abbrev cX8_first : ByteArray := prog_10_method_4_code
def yX8_first : MethodName := ⟨RX8, "first", "()I"⟩
abbrev cX8_last : ByteArray := prog_10_method_5_code
def yX8_last : MethodName := ⟨RX8, "last", "()I"⟩
abbrev cX8_has : ByteArray := prog_10_method_6_code
def yX8_has : MethodName := ⟨RX8, "has", "(I)Z"⟩
def RX9 : String := "CarriedNumbers"
def TX9 : u_T := fun k => match k with
  | 0 => ("CarriedNumbers", "numbers", "LCarriedNumbers$Numbers;", true)
  | 1 => ("CarriedNumbers", "carriers", "LCarriedNumbers$Carriers;", true)
  | 2 => ("CarriedNumbers", "spendings", "LCarriedNumbers$Row;", true)
  | 3 => ("CarriedNumbers", "network", "LCarriedNumbers$Trunks;", true)
  | 4 => ("CarriedNumbers", "ports", "LCarriedNumbers$Ports;", true)
  | 5 => ("CarriedNumbers", "sales", "LCarriedNumbers$History;", true)
  | 6 => ("CarriedNumbers", "tariffs", "LCarriedNumbers$Tariffs;", true)
  | 7 => ("CarriedNumbers", "talks", "LCarriedNumbers$Calls;", true)
  | 8 => ("CarriedNumbers", "way", "LCarriedNumbers$Way;", true)
  | 9 => ("CarriedNumbers", "now", "I", false)
  | _ => ("CarriedNumbers", "losts", "I", false)
def tyX9 : Nat → FieldType := fun k => match k with
  | 0 => .object "CarriedNumbers$Numbers"
  | 1 => .object "CarriedNumbers$Carriers"
  | 2 => .object "CarriedNumbers$Row"
  | 3 => .object "CarriedNumbers$Trunks"
  | 4 => .object "CarriedNumbers$Ports"
  | 5 => .object "CarriedNumbers$History"
  | 6 => .object "CarriedNumbers$Tariffs"
  | 7 => .object "CarriedNumbers$Calls"
  | 8 => .object "CarriedNumbers$Way"
  | 9 => .int
  | _ => .int
abbrev wsX90 : List Cond := u_ws RX9 TX9 11
theorem nmX9 : ∀ a, a < 11 → ∀ b, b < 11 → a ≠ b → (TX9 a).2.1 ≠ (TX9 b).2.1 := by decide +kernel
theorem tyX9_ok : ∀ k, k < 11 → parseFieldDescriptor (TX9 k).2.2.1 = some (tyX9 k) := by decide +kernel
abbrev cX9_init : ByteArray := prog_1_method_1_code
def yX9_init : MethodName := ⟨RX9, "<init>", "()V"⟩
abbrev cX9_setPrices : ByteArray := prog_1_method_2_code
def yX9_setPrices : MethodName := ⟨RX9, "setPrices", "(III)I"⟩
abbrev cX9_setDelay : ByteArray := prog_1_method_3_code
def yX9_setDelay : MethodName := ⟨RX9, "setDelay", "(II)I"⟩
abbrev cX9_setTrunk : ByteArray := prog_1_method_4_code
def yX9_setTrunk : MethodName := ⟨RX9, "setTrunk", "(III)I"⟩
abbrev cX9_port : ByteArray := prog_1_method_5_code
def yX9_port : MethodName := ⟨RX9, "port", "(II)I"⟩
abbrev cX9_sell : ByteArray := prog_1_method_6_code
def yX9_sell : MethodName := ⟨RX9, "sell", "(II)I"⟩
abbrev cX9_bond : ByteArray := prog_1_method_7_code
def yX9_bond : MethodName := ⟨RX9, "bond", "(II)I"⟩
abbrev cX9_pay : ByteArray := prog_1_method_8_code
def yX9_pay : MethodName := ⟨RX9, "pay", "(II)I"⟩
abbrev cX9_judge : ByteArray := prog_1_method_9_code
def yX9_judge : MethodName := ⟨RX9, "judge", "(I)I"⟩
abbrev cX9_call : ByteArray := prog_1_method_10_code
def yX9_call : MethodName := ⟨RX9, "call", "(II)I"⟩
abbrev cX9_hangUp : ByteArray := prog_1_method_11_code
def yX9_hangUp : MethodName := ⟨RX9, "hangUp", "(I)I"⟩
abbrev cX9_pass : ByteArray := prog_1_method_12_code
def yX9_pass : MethodName := ⟨RX9, "pass", "(I)I"⟩
abbrev cX9_second : ByteArray := prog_1_method_13_code
def yX9_second : MethodName := ⟨RX9, "second", "()I"⟩
abbrev cX9_isDear : ByteArray := prog_1_method_14_code
def yX9_isDear : MethodName := ⟨RX9, "isDear", "()Z"⟩
abbrev cX9_carrierOf : ByteArray := prog_1_method_15_code
def yX9_carrierOf : MethodName := ⟨RX9, "carrierOf", "(I)I"⟩
abbrev cX9_carrierThen : ByteArray := prog_1_method_16_code
def yX9_carrierThen : MethodName := ⟨RX9, "carrierThen", "(II)I"⟩
abbrev cX9_ownerOf : ByteArray := prog_1_method_17_code
def yX9_ownerOf : MethodName := ⟨RX9, "ownerOf", "(I)I"⟩
abbrev cX9_believed : ByteArray := prog_1_method_18_code
def yX9_believed : MethodName := ⟨RX9, "believed", "(II)I"⟩
abbrev cX9_debt : ByteArray := prog_1_method_19_code
def yX9_debt : MethodName := ⟨RX9, "debt", "(I)I"⟩
abbrev cX9_debtAnew : ByteArray := prog_1_method_20_code
def yX9_debtAnew : MethodName := ⟨RX9, "debtAnew", "(I)I"⟩
abbrev cX9_bondOf : ByteArray := prog_1_method_21_code
def yX9_bondOf : MethodName := ⟨RX9, "bondOf", "(I)I"⟩
abbrev cX9_isBarred : ByteArray := prog_1_method_22_code
def yX9_isBarred : MethodName := ⟨RX9, "isBarred", "(I)Z"⟩
abbrev cX9_callOf : ByteArray := prog_1_method_23_code
def yX9_callOf : MethodName := ⟨RX9, "callOf", "(I)I"⟩
abbrev cX9_free : ByteArray := prog_1_method_24_code
def yX9_free : MethodName := ⟨RX9, "free", "(II)I"⟩
abbrev cX9_route : ByteArray := prog_1_method_25_code
def yX9_route : MethodName := ⟨RX9, "route", "(II)I"⟩
abbrev cX9_calls : ByteArray := prog_1_method_26_code
def yX9_calls : MethodName := ⟨RX9, "calls", "()I"⟩
abbrev cX9_lost : ByteArray := prog_1_method_27_code
def yX9_lost : MethodName := ⟨RX9, "lost", "()I"⟩
abbrev cX9_state : ByteArray := prog_1_method_28_code
def yX9_state : MethodName := ⟨RX9, "state", "(I)I"⟩
abbrev cX9_trunks : ByteArray := prog_1_method_29_code
def yX9_trunks : MethodName := ⟨RX9, "trunks", "(I)I"⟩
abbrev cX9_carrierAt : ByteArray := prog_1_method_30_code
def yX9_carrierAt : MethodName := ⟨RX9, "carrierAt", "(II)I"⟩
abbrev cX9_seconds : ByteArray := prog_1_method_31_code
def yX9_seconds : MethodName := ⟨RX9, "seconds", "(I)I"⟩
abbrev cX9_charged : ByteArray := prog_1_method_32_code
def yX9_charged : MethodName := ⟨RX9, "charged", "(I)I"⟩
abbrev cX9_chargedAnew : ByteArray := prog_1_method_33_code
def yX9_chargedAnew : MethodName := ⟨RX9, "chargedAnew", "(I)I"⟩
abbrev cX9_coins : ByteArray := prog_1_method_34_code
def yX9_coins : MethodName := ⟨RX9, "coins", "(I)I"⟩
abbrev cX9_earned : ByteArray := prog_1_method_35_code
def yX9_earned : MethodName := ⟨RX9, "earned", "(I)I"⟩
abbrev cX9_earnedAnew : ByteArray := prog_1_method_36_code
def yX9_earnedAnew : MethodName := ⟨RX9, "earnedAnew", "(I)I"⟩
abbrev cX9_spent : ByteArray := prog_1_method_37_code
def yX9_spent : MethodName := ⟨RX9, "spent", "(I)I"⟩
abbrev cX9_spentAnew : ByteArray := prog_1_method_38_code
def yX9_spentAnew : MethodName := ⟨RX9, "spentAnew", "(I)I"⟩
abbrev cX9_losses : ByteArray := prog_1_method_39_code
def yX9_losses : MethodName := ⟨RX9, "losses", "(I)I"⟩
abbrev cX9_needCarrier : ByteArray := prog_1_method_40_code
def yX9_needCarrier : MethodName := ⟨RX9, "needCarrier", "(I)V"⟩
abbrev cX9_needPerson : ByteArray := prog_1_method_41_code
def yX9_needPerson : MethodName := ⟨RX9, "needPerson", "(I)V"⟩
abbrev cX9_needNumber : ByteArray := prog_1_method_42_code
def yX9_needNumber : MethodName := ⟨RX9, "needNumber", "(I)V"⟩
abbrev cX9_needCall : ByteArray := prog_1_method_43_code
def yX9_needCall : MethodName := ⟨RX9, "needCall", "(I)V"⟩
abbrev cX9_needDifferent : ByteArray := prog_1_method_44_code
def yX9_needDifferent : MethodName := ⟨RX9, "needDifferent", "(II)V"⟩
abbrev cX9_needWithin : ByteArray := prog_1_method_45_code
def yX9_needWithin : MethodName := ⟨RX9, "needWithin", "(III)V"⟩
abbrev cX9_settle : ByteArray := prog_1_method_46_code
def yX9_settle : MethodName := ⟨RX9, "settle", "(II)I"⟩
abbrev cX9_findWay : ByteArray := prog_1_method_47_code
def yX9_findWay : MethodName := ⟨RX9, "findWay", "(II)Z"⟩
abbrev cX9_beginTalk : ByteArray := prog_1_method_48_code
def yX9_beginTalk : MethodName := ⟨RX9, "beginTalk", "(II)I"⟩
abbrev cX9_endTalk : ByteArray := prog_1_method_49_code
def yX9_endTalk : MethodName := ⟨RX9, "endTalk", "(II)V"⟩
abbrev cX9_takeLines : ByteArray := prog_1_method_50_code
def yX9_takeLines : MethodName := ⟨RX9, "takeLines", "(II)V"⟩
abbrev cX9_loseTooMany : ByteArray := prog_1_method_51_code
def yX9_loseTooMany : MethodName := ⟨RX9, "loseTooMany", "(II)I"⟩
abbrev cX9_chargeUntil : ByteArray := prog_1_method_52_code
def yX9_chargeUntil : MethodName := ⟨RX9, "chargeUntil", "(II)I"⟩
abbrev cX9_chargesAnew : ByteArray := prog_1_method_53_code
def yX9_chargesAnew : MethodName := ⟨RX9, "chargesAnew", "(III)I"⟩
def RX10 : String := "CarriedNumbersModel"
def TX10 : u_T := fun k => match k with
  | _ => ("", "", "", false)
def tyX10 : Nat → FieldType := fun k => match k with
  | _ => .int
abbrev wsX100 : List Cond := u_ws RX10 TX10 0
theorem nmX10 : ∀ a, a < 0 → ∀ b, b < 0 → a ≠ b → (TX10 a).2.1 ≠ (TX10 b).2.1 := by decide +kernel
theorem tyX10_ok : ∀ k, k < 0 → parseFieldDescriptor (TX10 k).2.2.1 = some (tyX10 k) := by decide +kernel
def RJ9 : String := "java/lang/Math"
def TJ9 : u_T := fun k => match k with
  | _ => ("", "", "", false)
def tyJ9 : Nat → FieldType := fun k => match k with
  | _ => .int
abbrev wsJ90 : List Cond := u_ws RJ9 TJ9 0
theorem nmJ9 : ∀ a, a < 0 → ∀ b, b < 0 → a ≠ b → (TJ9 a).2.1 ≠ (TJ9 b).2.1 := by decide +kernel
theorem tyJ9_ok : ∀ k, k < 0 → parseFieldDescriptor (TJ9 k).2.2.1 = some (tyJ9 k) := by decide +kernel
abbrev cJ9_max_7cf53 : ByteArray := prog_17_method_65_code
def yJ9_max_7cf53 : MethodName := ⟨RJ9, "max", "(II)I"⟩
abbrev cJ9_min_7cf53 : ByteArray := prog_17_method_69_code
def yJ9_min_7cf53 : MethodName := ⟨RJ9, "min", "(II)I"⟩
def RJ0 : String := "java/lang/String"
def TJ0 : u_T := fun k => match k with
  | _ => ("", "", "", false)
def tyJ0 : Nat → FieldType := fun k => match k with
  | _ => .int
abbrev wsJ00 : List Cond := u_ws RJ0 TJ0 0
theorem nmJ0 : ∀ a, a < 0 → ∀ b, b < 0 → a ≠ b → (TJ0 a).2.1 ≠ (TJ0 b).2.1 := by decide +kernel
theorem tyJ0_ok : ∀ k, k < 0 → parseFieldDescriptor (TJ0 k).2.2.1 = some (tyJ0 k) := by decide +kernel
def RL : String := "CarriedNumbersLaw"
abbrev cL_prices : ByteArray := method_2_code
def yL_prices : MethodName := ⟨RL, "prices", "(LCarriedNumbers;III)I"⟩
abbrev cL_delays : ByteArray := method_3_code
def yL_delays : MethodName := ⟨RL, "delays", "(LCarriedNumbers;II)I"⟩
abbrev cL_lines : ByteArray := method_4_code
def yL_lines : MethodName := ⟨RL, "lines", "(LCarriedNumbers;III)I"⟩
abbrev cL_ports : ByteArray := method_5_code
def yL_ports : MethodName := ⟨RL, "ports", "(LCarriedNumbers;II)I"⟩
abbrev cL_sells : ByteArray := method_6_code
def yL_sells : MethodName := ⟨RL, "sells", "(LCarriedNumbers;II)I"⟩
abbrev cL_bonds : ByteArray := method_7_code
def yL_bonds : MethodName := ⟨RL, "bonds", "(LCarriedNumbers;II)I"⟩
abbrev cL_pays : ByteArray := method_8_code
def yL_pays : MethodName := ⟨RL, "pays", "(LCarriedNumbers;II)I"⟩
abbrev cL_judges : ByteArray := method_9_code
def yL_judges : MethodName := ⟨RL, "judges", "(LCarriedNumbers;I)I"⟩
abbrev cL_rings : ByteArray := method_10_code
def yL_rings : MethodName := ⟨RL, "rings", "(LCarriedNumbers;II)I"⟩
abbrev cL_hangs : ByteArray := method_11_code
def yL_hangs : MethodName := ⟨RL, "hangs", "(LCarriedNumbers;I)I"⟩
abbrev cL_passes : ByteArray := method_12_code
def yL_passes : MethodName := ⟨RL, "passes", "(LCarriedNumbers;I)I"⟩
abbrev cL_carrier : ByteArray := method_13_code
def yL_carrier : MethodName := ⟨RL, "carrier", "(LCarriedNumbers;I)I"⟩
abbrev cL_then : ByteArray := method_14_code
def yL_then : MethodName := ⟨RL, "then", "(LCarriedNumbers;II)I"⟩
abbrev cL_owner : ByteArray := method_15_code
def yL_owner : MethodName := ⟨RL, "owner", "(LCarriedNumbers;I)I"⟩
abbrev cL_believed : ByteArray := method_16_code
def yL_believed : MethodName := ⟨RL, "believed", "(LCarriedNumbers;II)I"⟩
abbrev cL_debt : ByteArray := method_17_code
def yL_debt : MethodName := ⟨RL, "debt", "(LCarriedNumbers;I)I"⟩
abbrev cL_debtAnew : ByteArray := method_18_code
def yL_debtAnew : MethodName := ⟨RL, "debtAnew", "(LCarriedNumbers;I)I"⟩
abbrev cL_bond : ByteArray := method_19_code
def yL_bond : MethodName := ⟨RL, "bond", "(LCarriedNumbers;I)I"⟩
abbrev cL_barred : ByteArray := method_20_code
def yL_barred : MethodName := ⟨RL, "barred", "(LCarriedNumbers;I)I"⟩
abbrev cL_callOf : ByteArray := method_21_code
def yL_callOf : MethodName := ⟨RL, "callOf", "(LCarriedNumbers;I)I"⟩
abbrev cL_free : ByteArray := method_22_code
def yL_free : MethodName := ⟨RL, "free", "(LCarriedNumbers;II)I"⟩
abbrev cL_route : ByteArray := method_23_code
def yL_route : MethodName := ⟨RL, "route", "(LCarriedNumbers;II)I"⟩
abbrev cL_state : ByteArray := method_24_code
def yL_state : MethodName := ⟨RL, "state", "(LCarriedNumbers;I)I"⟩
abbrev cL_trunks : ByteArray := method_25_code
def yL_trunks : MethodName := ⟨RL, "trunks", "(LCarriedNumbers;I)I"⟩
abbrev cL_at : ByteArray := method_26_code
def yL_at : MethodName := ⟨RL, "at", "(LCarriedNumbers;II)I"⟩
abbrev cL_seconds : ByteArray := method_27_code
def yL_seconds : MethodName := ⟨RL, "seconds", "(LCarriedNumbers;I)I"⟩
abbrev cL_charged : ByteArray := method_28_code
def yL_charged : MethodName := ⟨RL, "charged", "(LCarriedNumbers;I)I"⟩
abbrev cL_chargedAnew : ByteArray := method_29_code
def yL_chargedAnew : MethodName := ⟨RL, "chargedAnew", "(LCarriedNumbers;I)I"⟩
abbrev cL_coins : ByteArray := method_30_code
def yL_coins : MethodName := ⟨RL, "coins", "(LCarriedNumbers;I)I"⟩
abbrev cL_earned : ByteArray := method_31_code
def yL_earned : MethodName := ⟨RL, "earned", "(LCarriedNumbers;I)I"⟩
abbrev cL_earnedAnew : ByteArray := method_32_code
def yL_earnedAnew : MethodName := ⟨RL, "earnedAnew", "(LCarriedNumbers;I)I"⟩
abbrev cL_spent : ByteArray := method_33_code
def yL_spent : MethodName := ⟨RL, "spent", "(LCarriedNumbers;I)I"⟩
abbrev cL_spentAnew : ByteArray := method_34_code
def yL_spentAnew : MethodName := ⟨RL, "spentAnew", "(LCarriedNumbers;I)I"⟩
abbrev cL_losses : ByteArray := method_35_code
def yL_losses : MethodName := ⟨RL, "losses", "(LCarriedNumbers;I)I"⟩
abbrev cL_drawn : ByteArray := method_36_code
def yL_drawn : MethodName := ⟨RL, "drawn", "([II)I"⟩
abbrev cL_refuses : ByteArray := method_37_code
def yL_refuses : MethodName := ⟨RL, "refuses", "(LCarriedNumbers;I)Z"⟩
abbrev cL_act : ByteArray := method_38_code
def yL_act : MethodName := ⟨RL, "act", "(LCarriedNumbers;IZ)I"⟩
abbrev cL_alike : ByteArray := method_39_code
def yL_alike : MethodName := ⟨RL, "alike", "(LCarriedNumbers;LCarriedNumbers;I)Z"⟩
abbrev cL_holds : ByteArray := method_40_code
def yL_holds : MethodName := ⟨RL, "holds", "(LCarriedNumbers;[II)Z"⟩
abbrev cL_ends : ByteArray := method_41_code
def yL_ends : MethodName := ⟨RL, "ends", "(LCarriedNumbers;[I)Z"⟩
abbrev cL_law : ByteArray := code
def yL_law : MethodName := ⟨RL, "law", "([I)Z"⟩
abbrev vwCl : List vw_C := [(RX0, TX0, 9), (RX1, TX1, 4), (RX2, TX2, 4), (RX3, TX3, 7), (RX4, TX4, 2), (RX5, TX5, 1), (RX6, TX6, 2), (RX7, TX7, 2), (RX8, TX8, 2), (RX9, TX9, 11)]
