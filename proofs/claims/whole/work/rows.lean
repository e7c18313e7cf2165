section
-- ===== PART A: goes FIRST, ahead of the names: the tables' words, and 'selects' of the private methods out of them =====
/-- a private method of a class that the tables say can be made, by its rows of tables_1 -/
def lw_okq (q : MethodName × Nat) : Prop := (q.1.cls ≠ "java/lang/invoke/MethodHandle" ∧ q.1.cls ≠ "java/lang/invoke/VarHandle") ∧ Cond.instantiable q.1.cls q.2 ∈ tables_1 ∧ Cond.privateMethod q.1 ∈ tables_1 ∧ Cond.instanceMethod q.1 ∈ tables_1
theorem lw_p0 : lw_okq (⟨"RockRoad", "shipNumbered", "(I)LRockRoad$Ship;"⟩, 10) := ⟨⟨by decide +kernel, by decide +kernel⟩, List.mem_of_getElem? (i := 10) (by decide +kernel), List.mem_of_getElem? (i := 183) (by decide +kernel), List.mem_of_getElem? (i := 184) (by decide +kernel)⟩
theorem lw_p1 : lw_okq (⟨"RockRoad", "letOneDayGo", "()V"⟩, 10) := ⟨⟨by decide +kernel, by decide +kernel⟩, List.mem_of_getElem? (i := 10) (by decide +kernel), List.mem_of_getElem? (i := 197) (by decide +kernel), List.mem_of_getElem? (i := 198) (by decide +kernel)⟩
theorem lw_p2 : lw_okq (⟨"RockRoad", "lineUp", "()I"⟩, 10) := ⟨⟨by decide +kernel, by decide +kernel⟩, List.mem_of_getElem? (i := 10) (by decide +kernel), List.mem_of_getElem? (i := 212) (by decide +kernel), List.mem_of_getElem? (i := 213) (by decide +kernel)⟩
theorem lw_p3 : lw_okq (⟨"RockRoad", "standInLine", "(LRockRoad$Ship;I)V"⟩, 10) := ⟨⟨by decide +kernel, by decide +kernel⟩, List.mem_of_getElem? (i := 10) (by decide +kernel), List.mem_of_getElem? (i := 221) (by decide +kernel), List.mem_of_getElem? (i := 222) (by decide +kernel)⟩
theorem lw_p4 : lw_okq (⟨"RockRoad", "loadLine", "(I)I"⟩, 10) := ⟨⟨by decide +kernel, by decide +kernel⟩, List.mem_of_getElem? (i := 10) (by decide +kernel), List.mem_of_getElem? (i := 225) (by decide +kernel), List.mem_of_getElem? (i := 226) (by decide +kernel)⟩
theorem lw_p5 : lw_okq (⟨"RockRoad", "tonsAt", "(I)I"⟩, 10) := ⟨⟨by decide +kernel, by decide +kernel⟩, List.mem_of_getElem? (i := 10) (by decide +kernel), List.mem_of_getElem? (i := 229) (by decide +kernel), List.mem_of_getElem? (i := 230) (by decide +kernel)⟩
theorem lw_p6 : lw_okq (⟨"RockRoad", "chutesShut", "(I)Z"⟩, 10) := ⟨⟨by decide +kernel, by decide +kernel⟩, List.mem_of_getElem? (i := 10) (by decide +kernel), List.mem_of_getElem? (i := 233) (by decide +kernel), List.mem_of_getElem? (i := 234) (by decide +kernel)⟩
theorem lw_p7 : lw_okq (⟨"RockRoad", "lightersShut", "(I)Z"⟩, 10) := ⟨⟨by decide +kernel, by decide +kernel⟩, List.mem_of_getElem? (i := 10) (by decide +kernel), List.mem_of_getElem? (i := 237) (by decide +kernel), List.mem_of_getElem? (i := 238) (by decide +kernel)⟩
theorem lw_p8 : lw_okq (⟨"RockRoad", "tonsWanted", "()I"⟩, 10) := ⟨⟨by decide +kernel, by decide +kernel⟩, List.mem_of_getElem? (i := 10) (by decide +kernel), List.mem_of_getElem? (i := 253) (by decide +kernel), List.mem_of_getElem? (i := 254) (by decide +kernel)⟩
theorem lw_p9 : lw_okq (⟨"RockRoad$Draft", "addDigit", "(II)Z"⟩, 3) := ⟨⟨by decide +kernel, by decide +kernel⟩, List.mem_of_getElem? (i := 39) (by decide +kernel), List.mem_of_getElem? (i := 312) (by decide +kernel), List.mem_of_getElem? (i := 313) (by decide +kernel)⟩
theorem lw_p10 : lw_okq (⟨"RockRoad", "usedBy", "(LRockRoad$Ship;)I"⟩, 10) := ⟨⟨by decide +kernel, by decide +kernel⟩, List.mem_of_getElem? (i := 10) (by decide +kernel), List.mem_of_getElem? (i := 331) (by decide +kernel), List.mem_of_getElem? (i := 332) (by decide +kernel)⟩
theorem lw_p11 : lw_okq (⟨"RockRoad", "lastDayOf", "(LRockRoad$Ship;)I"⟩, 10) := ⟨⟨by decide +kernel, by decide +kernel⟩, List.mem_of_getElem? (i := 10) (by decide +kernel), List.mem_of_getElem? (i := 335) (by decide +kernel), List.mem_of_getElem? (i := 336) (by decide +kernel)⟩
theorem lw_p12 : lw_okq (⟨"RockRoad", "counts", "(LRockRoad$Ship;I)Z"⟩, 10) := ⟨⟨by decide +kernel, by decide +kernel⟩, List.mem_of_getElem? (i := 10) (by decide +kernel), List.mem_of_getElem? (i := 339) (by decide +kernel), List.mem_of_getElem? (i := 340) (by decide +kernel)⟩
theorem lw_p13 : lw_okq (⟨"RockRoad", "owedBy", "(LRockRoad$Ship;)I"⟩, 10) := ⟨⟨by decide +kernel, by decide +kernel⟩, List.mem_of_getElem? (i := 10) (by decide +kernel), List.mem_of_getElem? (i := 347) (by decide +kernel), List.mem_of_getElem? (i := 348) (by decide +kernel)⟩
theorem lw_p14 : lw_okq (⟨"RockRoad", "shareOf", "(LRockRoad$Ship;I)I"⟩, 10) := ⟨⟨by decide +kernel, by decide +kernel⟩, List.mem_of_getElem? (i := 10) (by decide +kernel), List.mem_of_getElem? (i := 355) (by decide +kernel), List.mem_of_getElem? (i := 356) (by decide +kernel)⟩
theorem lw_p15 : lw_okq (⟨"RockRoad$Letters", "latestCome", "(I)I"⟩, 3) := ⟨⟨by decide +kernel, by decide +kernel⟩, List.mem_of_getElem? (i := 57) (by decide +kernel), List.mem_of_getElem? (i := 375) (by decide +kernel), List.mem_of_getElem? (i := 376) (by decide +kernel)⟩
def lw_privs_1 : List (MethodName × Nat) := [(⟨"RockRoad", "shipNumbered", "(I)LRockRoad$Ship;"⟩, 10), (⟨"RockRoad", "letOneDayGo", "()V"⟩, 10), (⟨"RockRoad", "lineUp", "()I"⟩, 10), (⟨"RockRoad", "standInLine", "(LRockRoad$Ship;I)V"⟩, 10), (⟨"RockRoad", "loadLine", "(I)I"⟩, 10), (⟨"RockRoad", "tonsAt", "(I)I"⟩, 10), (⟨"RockRoad", "chutesShut", "(I)Z"⟩, 10), (⟨"RockRoad", "lightersShut", "(I)Z"⟩, 10), (⟨"RockRoad", "tonsWanted", "()I"⟩, 10), (⟨"RockRoad$Draft", "addDigit", "(II)Z"⟩, 3), (⟨"RockRoad", "usedBy", "(LRockRoad$Ship;)I"⟩, 10), (⟨"RockRoad", "lastDayOf", "(LRockRoad$Ship;)I"⟩, 10), (⟨"RockRoad", "counts", "(LRockRoad$Ship;I)Z"⟩, 10), (⟨"RockRoad", "owedBy", "(LRockRoad$Ship;)I"⟩, 10), (⟨"RockRoad", "shareOf", "(LRockRoad$Ship;I)I"⟩, 10), (⟨"RockRoad$Letters", "latestCome", "(I)I"⟩, 3)]
theorem lw_r1 : ∀ q ∈ lw_privs_1, lw_okq q := List.forall_mem_cons.mpr ⟨lw_p0, List.forall_mem_cons.mpr ⟨lw_p1, List.forall_mem_cons.mpr ⟨lw_p2, List.forall_mem_cons.mpr ⟨lw_p3, List.forall_mem_cons.mpr ⟨lw_p4, List.forall_mem_cons.mpr ⟨lw_p5, List.forall_mem_cons.mpr ⟨lw_p6, List.forall_mem_cons.mpr ⟨lw_p7, List.forall_mem_cons.mpr ⟨lw_p8, List.forall_mem_cons.mpr ⟨lw_p9, List.forall_mem_cons.mpr ⟨lw_p10, List.forall_mem_cons.mpr ⟨lw_p11, List.forall_mem_cons.mpr ⟨lw_p12, List.forall_mem_cons.mpr ⟨lw_p13, List.forall_mem_cons.mpr ⟨lw_p14, List.forall_mem_cons.mpr ⟨lw_p15, fun _ h => absurd h List.not_mem_nil⟩⟩⟩⟩⟩⟩⟩⟩⟩⟩⟩⟩⟩⟩⟩⟩
theorem lw_p16 : lw_okq (⟨"RockRoad", "loadedShips", "()I"⟩, 10) := ⟨⟨by decide +kernel, by decide +kernel⟩, List.mem_of_getElem? (i := 10) (by decide +kernel), List.mem_of_getElem? (i := 388) (by decide +kernel), List.mem_of_getElem? (i := 389) (by decide +kernel)⟩
theorem lw_p17 : lw_okq (⟨"RockRoad", "dryShips", "()I"⟩, 10) := ⟨⟨by decide +kernel, by decide +kernel⟩, List.mem_of_getElem? (i := 10) (by decide +kernel), List.mem_of_getElem? (i := 393) (by decide +kernel), List.mem_of_getElem? (i := 394) (by decide +kernel)⟩
theorem lw_p18 : lw_okq (⟨"RockRoadModel", "isShip", "(I)Z"⟩, 25) := ⟨⟨by decide +kernel, by decide +kernel⟩, List.mem_of_getElem? (i := 401) (by decide +kernel), List.mem_of_getElem? (i := 507) (by decide +kernel), List.mem_of_getElem? (i := 508) (by decide +kernel)⟩
theorem lw_p19 : lw_okq (⟨"RockRoadModel", "turnOf", "(I)I"⟩, 25) := ⟨⟨by decide +kernel, by decide +kernel⟩, List.mem_of_getElem? (i := 401) (by decide +kernel), List.mem_of_getElem? (i := 513) (by decide +kernel), List.mem_of_getElem? (i := 514) (by decide +kernel)⟩
theorem lw_p20 : lw_okq (⟨"RockRoadModel", "goes", "()V"⟩, 25) := ⟨⟨by decide +kernel, by decide +kernel⟩, List.mem_of_getElem? (i := 401) (by decide +kernel), List.mem_of_getElem? (i := 521) (by decide +kernel), List.mem_of_getElem? (i := 522) (by decide +kernel)⟩
theorem lw_p21 : lw_okq (⟨"RockRoadModel", "isLoaded", "(I)Z"⟩, 25) := ⟨⟨by decide +kernel, by decide +kernel⟩, List.mem_of_getElem? (i := 401) (by decide +kernel), List.mem_of_getElem? (i := 525) (by decide +kernel), List.mem_of_getElem? (i := 526) (by decide +kernel)⟩
theorem lw_p22 : lw_okq (⟨"RockRoadModel", "loads", "(II)I"⟩, 25) := ⟨⟨by decide +kernel, by decide +kernel⟩, List.mem_of_getElem? (i := 401) (by decide +kernel), List.mem_of_getElem? (i := 529) (by decide +kernel), List.mem_of_getElem? (i := 530) (by decide +kernel)⟩
theorem lw_p23 : lw_okq (⟨"RockRoadModel", "tonsOf", "(I)I"⟩, 25) := ⟨⟨by decide +kernel, by decide +kernel⟩, List.mem_of_getElem? (i := 401) (by decide +kernel), List.mem_of_getElem? (i := 537) (by decide +kernel), List.mem_of_getElem? (i := 538) (by decide +kernel)⟩
theorem lw_p24 : lw_okq (⟨"RockRoadModel", "worthOf", "(I)I"⟩, 25) := ⟨⟨by decide +kernel, by decide +kernel⟩, List.mem_of_getElem? (i := 401) (by decide +kernel), List.mem_of_getElem? (i := 541) (by decide +kernel), List.mem_of_getElem? (i := 542) (by decide +kernel)⟩
theorem lw_p25 : lw_okq (⟨"RockRoadModel", "faultOf", "()I"⟩, 25) := ⟨⟨by decide +kernel, by decide +kernel⟩, List.mem_of_getElem? (i := 401) (by decide +kernel), List.mem_of_getElem? (i := 574) (by decide +kernel), List.mem_of_getElem? (i := 575) (by decide +kernel)⟩
theorem lw_p26 : lw_okq (⟨"RockRoadModel", "isDigit", "(I)Z"⟩, 25) := ⟨⟨by decide +kernel, by decide +kernel⟩, List.mem_of_getElem? (i := 401) (by decide +kernel), List.mem_of_getElem? (i := 578) (by decide +kernel), List.mem_of_getElem? (i := 579) (by decide +kernel)⟩
theorem lw_p27 : lw_okq (⟨"RockRoadModel", "usedOf", "(I)I"⟩, 25) := ⟨⟨by decide +kernel, by decide +kernel⟩, List.mem_of_getElem? (i := 401) (by decide +kernel), List.mem_of_getElem? (i := 591) (by decide +kernel), List.mem_of_getElem? (i := 592) (by decide +kernel)⟩
theorem lw_p28 : lw_okq (⟨"RockRoadModel", "last", "(I)I"⟩, 25) := ⟨⟨by decide +kernel, by decide +kernel⟩, List.mem_of_getElem? (i := 401) (by decide +kernel), List.mem_of_getElem? (i := 595) (by decide +kernel), List.mem_of_getElem? (i := 596) (by decide +kernel)⟩
theorem lw_p29 : lw_okq (⟨"RockRoadModel", "counts", "(II)Z"⟩, 25) := ⟨⟨by decide +kernel, by decide +kernel⟩, List.mem_of_getElem? (i := 401) (by decide +kernel), List.mem_of_getElem? (i := 599) (by decide +kernel), List.mem_of_getElem? (i := 600) (by decide +kernel)⟩
theorem lw_p30 : lw_okq (⟨"RockRoadModel", "isHere", "(I)Z"⟩, 25) := ⟨⟨by decide +kernel, by decide +kernel⟩, List.mem_of_getElem? (i := 401) (by decide +kernel), List.mem_of_getElem? (i := 615) (by decide +kernel), List.mem_of_getElem? (i := 616) (by decide +kernel)⟩
def lw_privs_2 : List (MethodName × Nat) := [(⟨"RockRoad", "loadedShips", "()I"⟩, 10), (⟨"RockRoad", "dryShips", "()I"⟩, 10), (⟨"RockRoadModel", "isShip", "(I)Z"⟩, 25), (⟨"RockRoadModel", "turnOf", "(I)I"⟩, 25), (⟨"RockRoadModel", "goes", "()V"⟩, 25), (⟨"RockRoadModel", "isLoaded", "(I)Z"⟩, 25), (⟨"RockRoadModel", "loads", "(II)I"⟩, 25), (⟨"RockRoadModel", "tonsOf", "(I)I"⟩, 25), (⟨"RockRoadModel", "worthOf", "(I)I"⟩, 25), (⟨"RockRoadModel", "faultOf", "()I"⟩, 25), (⟨"RockRoadModel", "isDigit", "(I)Z"⟩, 25), (⟨"RockRoadModel", "usedOf", "(I)I"⟩, 25), (⟨"RockRoadModel", "last", "(I)I"⟩, 25), (⟨"RockRoadModel", "counts", "(II)Z"⟩, 25), (⟨"RockRoadModel", "isHere", "(I)Z"⟩, 25)]
theorem lw_r2 : ∀ q ∈ lw_privs_2, lw_okq q := List.forall_mem_cons.mpr ⟨lw_p16, List.forall_mem_cons.mpr ⟨lw_p17, List.forall_mem_cons.mpr ⟨lw_p18, List.forall_mem_cons.mpr ⟨lw_p19, List.forall_mem_cons.mpr ⟨lw_p20, List.forall_mem_cons.mpr ⟨lw_p21, List.forall_mem_cons.mpr ⟨lw_p22, List.forall_mem_cons.mpr ⟨lw_p23, List.forall_mem_cons.mpr ⟨lw_p24, List.forall_mem_cons.mpr ⟨lw_p25, List.forall_mem_cons.mpr ⟨lw_p26, List.forall_mem_cons.mpr ⟨lw_p27, List.forall_mem_cons.mpr ⟨lw_p28, List.forall_mem_cons.mpr ⟨lw_p29, List.forall_mem_cons.mpr ⟨lw_p30, fun _ h => absurd h List.not_mem_nil⟩⟩⟩⟩⟩⟩⟩⟩⟩⟩⟩⟩⟩⟩⟩
def lw_privs : List (MethodName × Nat) := lw_privs_1 ++ (lw_privs_2)
def lw_tbl : List Cond := k2_sels lw_privs ++ tables_1
theorem lw_privs_ok : ∀ q ∈ lw_privs, lw_okq q := by
  show ∀ q ∈ lw_privs_1 ++ (lw_privs_2), lw_okq q
  exact List.forall_mem_append.mpr ⟨lw_r1, lw_r2⟩
-- ===== end of PART A; then your names; then what follows =====
end
section
def RX0 : String := "RockRoad$Draft"
def TX0 : u_T := fun k => match k with
  | 0 => ("RockRoad$Draft", "bytes", "[I", true)
  | 1 => ("RockRoad$Draft", "terms", "[I", true)
  | _ => ("RockRoad$Draft", "length", "I", false)
def tyX0 : Nat → FieldType := fun k => match k with
  | 0 => .array .int
  | 1 => .array .int
  | _ => .int
abbrev wsX00 : List Cond := u_ws RX0 TX0 3
theorem nmX0 : ∀ a, a < 3 → ∀ b, b < 3 → a ≠ b → (TX0 a).2.1 ≠ (TX0 b).2.1 := by decide +kernel
theorem tyX0_ok : ∀ k, k < 3 → parseFieldDescriptor (TX0 k).2.2.1 = some (tyX0 k) := by decide +kernel
abbrev cX0_init : ByteArray := prog_2_method_1_code
def yX0_init : MethodName := ⟨RX0, "<init>", "()V"⟩
abbrev cX0_append : ByteArray := prog_2_method_2_code
def yX0_append : MethodName := ⟨RX0, "append", "(JI)V"⟩
abbrev cX0_read : ByteArray := prog_2_method_3_code
def yX0_read : MethodName := ⟨RX0, "read", "()I"⟩
abbrev cX0_takesNumber : ByteArray := prog_2_method_4_code
def yX0_takesNumber : MethodName := ⟨RX0, "takesNumber", "(I)Z"⟩
abbrev cX0_addDigit : ByteArray := prog_2_method_5_code
def yX0_addDigit : MethodName := ⟨RX0, "addDigit", "(II)Z"⟩
abbrev cX0_termOf : ByteArray := prog_2_method_6_code
def yX0_termOf : MethodName := ⟨RX0, "termOf", "(I)I"⟩
def RX1 : String := "RockRoad$Layers"
def TX1 : u_T := fun k => match k with
  | 0 => ("RockRoad$Layers", "tons", "[I", true)
  | 1 => ("RockRoad$Layers", "worths", "[I", true)
  | _ => ("RockRoad$Layers", "size", "I", false)
def tyX1 : Nat → FieldType := fun k => match k with
  | 0 => .array .int
  | 1 => .array .int
  | _ => .int
abbrev wsX10 : List Cond := u_ws RX1 TX1 3
theorem nmX1 : ∀ a, a < 3 → ∀ b, b < 3 → a ≠ b → (TX1 a).2.1 ≠ (TX1 b).2.1 := by decide +kernel
theorem tyX1_ok : ∀ k, k < 3 → parseFieldDescriptor (TX1 k).2.2.1 = some (tyX1 k) := by decide +kernel
abbrev cX1_init : ByteArray := prog_3_method_1_code
def yX1_init : MethodName := ⟨RX1, "<init>", "()V"⟩
abbrev cX1_has : ByteArray := prog_3_method_2_code
def yX1_has : MethodName := ⟨RX1, "has", "(I)Z"⟩
abbrev cX1_lay : ByteArray := prog_3_method_3_code
def yX1_lay : MethodName := ⟨RX1, "lay", "(II)I"⟩
abbrev cX1_dig : ByteArray := prog_3_method_4_code
def yX1_dig : MethodName := ⟨RX1, "dig", "(I[I)I"⟩
abbrev cX1_worthOf : ByteArray := prog_3_method_5_code
def yX1_worthOf : MethodName := ⟨RX1, "worthOf", "([I)I"⟩
abbrev cX1_sampleOf : ByteArray := prog_3_method_6_code
def yX1_sampleOf : MethodName := ⟨RX1, "sampleOf", "([II)I"⟩
def RX2 : String := "RockRoad$Letters"
def TX2 : u_T := fun k => match k with
  | 0 => ("RockRoad$Letters", "queues", "[I", true)
  | 1 => ("RockRoad$Letters", "dug", "[I", true)
  | _ => ("RockRoad$Letters", "comings", "[I", true)
def tyX2 : Nat → FieldType := fun k => match k with
  | 0 => .array .int
  | 1 => .array .int
  | _ => .array .int
abbrev wsX20 : List Cond := u_ws RX2 TX2 3
theorem nmX2 : ∀ a, a < 3 → ∀ b, b < 3 → a ≠ b → (TX2 a).2.1 ≠ (TX2 b).2.1 := by decide +kernel
theorem tyX2_ok : ∀ k, k < 3 → parseFieldDescriptor (TX2 k).2.2.1 = some (tyX2 k) := by decide +kernel
abbrev cX2_init : ByteArray := prog_4_method_1_code
def yX2_init : MethodName := ⟨RX2, "<init>", "()V"⟩
abbrev cX2_tell : ByteArray := prog_4_method_2_code
def yX2_tell : MethodName := ⟨RX2, "tell", "(IIII)V"⟩
abbrev cX2_dugFrom : ByteArray := prog_4_method_3_code
def yX2_dugFrom : MethodName := ⟨RX2, "dugFrom", "(II)I"⟩
abbrev cX2_foretell : ByteArray := prog_4_method_4_code
def yX2_foretell : MethodName := ⟨RX2, "foretell", "(I)I"⟩
abbrev cX2_latestCome : ByteArray := prog_4_method_5_code
def yX2_latestCome : MethodName := ⟨RX2, "latestCome", "(I)I"⟩
def RX3 : String := "RockRoad$Ship"
def TX3 : u_T := fun k => match k with
  | 0 => ("RockRoad$Ship", "number", "I", true)
  | 1 => ("RockRoad$Ship", "kind", "I", true)
  | 2 => ("RockRoad$Ship", "arrival", "I", true)
  | 3 => ("RockRoad$Ship", "cargo", "[I", true)
  | 4 => ("RockRoad$Ship", "terms", "[I", true)
  | 5 => ("RockRoad$Ship", "log", "[I", true)
  | 6 => ("RockRoad$Ship", "wants", "I", false)
  | 7 => ("RockRoad$Ship", "has", "I", false)
  | 8 => ("RockRoad$Ship", "water", "I", false)
  | _ => ("RockRoad$Ship", "loadedOn", "I", false)
def tyX3 : Nat → FieldType := fun k => match k with
  | 0 => .int
  | 1 => .int
  | 2 => .int
  | 3 => .array .int
  | 4 => .array .int
  | 5 => .array .int
  | 6 => .int
  | 7 => .int
  | 8 => .int
  | _ => .int
abbrev wsX30 : List Cond := u_ws RX3 TX3 10
theorem nmX3 : ∀ a, a < 10 → ∀ b, b < 10 → a ≠ b → (TX3 a).2.1 ≠ (TX3 b).2.1 := by decide +kernel
theorem tyX3_ok : ∀ k, k < 10 → parseFieldDescriptor (TX3 k).2.2.1 = some (tyX3 k) := by decide +kernel
abbrev cX3_init : ByteArray := prog_5_method_1_code
def yX3_init : MethodName := ⟨RX3, "<init>", "(IIIII)V"⟩
abbrev cX3_isLoaded : ByteArray := prog_5_method_2_code
def yX3_isLoaded : MethodName := ⟨RX3, "isLoaded", "()Z"⟩
abbrev cX3_isDry : ByteArray := prog_5_method_3_code
def yX3_isDry : MethodName := ⟨RX3, "isDry", "()Z"⟩
abbrev cX3_agreed : ByteArray := prog_5_method_4_code
def yX3_agreed : MethodName := ⟨RX3, "agreed", "(I)Z"⟩
abbrev cX3_turnOn : ByteArray := prog_5_method_5_code
def yX3_turnOn : MethodName := ⟨RX3, "turnOn", "(I)I"⟩
abbrev cX3_drink : ByteArray := prog_5_method_6_code
def yX3_drink : MethodName := ⟨RX3, "drink", "(I)V"⟩
abbrev cX3_take : ByteArray := prog_5_method_7_code
def yX3_take : MethodName := ⟨RX3, "take", "(II)V"⟩
def RX4 : String := "RockRoad"
def TX4 : u_T := fun k => match k with
  | 0 => ("RockRoad", "swells", "[I", true)
  | 1 => ("RockRoad", "layers", "LRockRoad$Layers;", true)
  | 2 => ("RockRoad", "ships", "[LRockRoad$Ship;", true)
  | 3 => ("RockRoad", "line", "[LRockRoad$Ship;", true)
  | 4 => ("RockRoad", "draft", "LRockRoad$Draft;", true)
  | 5 => ("RockRoad", "letters", "LRockRoad$Letters;", true)
  | 6 => ("RockRoad", "today", "I", false)
  | 7 => ("RockRoad", "shipCount", "I", false)
  | 8 => ("RockRoad", "delay", "I", false)
  | _ => ("RockRoad", "trace", "J", false)
def tyX4 : Nat → FieldType := fun k => match k with
  | 0 => .array .int
  | 1 => .object "RockRoad$Layers"
  | 2 => .array (.object "RockRoad$Ship")
  | 3 => .array (.object "RockRoad$Ship")
  | 4 => .object "RockRoad$Draft"
  | 5 => .object "RockRoad$Letters"
  | 6 => .int
  | 7 => .int
  | 8 => .int
  | _ => .long
abbrev wsX40 : List Cond := u_ws RX4 TX4 10
theorem nmX4 : ∀ a, a < 10 → ∀ b, b < 10 → a ≠ b → (TX4 a).2.1 ≠ (TX4 b).2.1 := by decide +kernel
theorem tyX4_ok : ∀ k, k < 10 → parseFieldDescriptor (TX4 k).2.2.1 = some (tyX4 k) := by decide +kernel
abbrev cX4_init : ByteArray := prog_1_method_1_code
def yX4_init : MethodName := ⟨RX4, "<init>", "()V"⟩
abbrev cX4_layer : ByteArray := prog_1_method_2_code
def yX4_layer : MethodName := ⟨RX4, "layer", "(II)I"⟩
abbrev cX4_left : ByteArray := prog_1_method_3_code
def yX4_left : MethodName := ⟨RX4, "left", "(I)I"⟩
abbrev cX4_swell : ByteArray := prog_1_method_4_code
def yX4_swell : MethodName := ⟨RX4, "swell", "(II)I"⟩
abbrev cX4_ship : ByteArray := prog_1_method_5_code
def yX4_ship : MethodName := ⟨RX4, "ship", "(III)I"⟩
abbrev cX4_turn : ByteArray := prog_1_method_6_code
def yX4_turn : MethodName := ⟨RX4, "turn", "(I)I"⟩
abbrev cX4_days : ByteArray := prog_1_method_7_code
def yX4_days : MethodName := ⟨RX4, "days", "(I)I"⟩
abbrev cX4_about : ByteArray := prog_1_method_8_code
def yX4_about : MethodName := ⟨RX4, "about", "(II)I"⟩
abbrev cX4_cargo : ByteArray := prog_1_method_9_code
def yX4_cargo : MethodName := ⟨RX4, "cargo", "(II)I"⟩
abbrev cX4_loaded : ByteArray := prog_1_method_10_code
def yX4_loaded : MethodName := ⟨RX4, "loaded", "(II)I"⟩
abbrev cX4_boat : ByteArray := prog_1_method_11_code
def yX4_boat : MethodName := ⟨RX4, "boat", "(II)I"⟩
abbrev cX4_sample : ByteArray := prog_1_method_12_code
def yX4_sample : MethodName := ⟨RX4, "sample", "(II)I"⟩
abbrev cX4_type : ByteArray := prog_1_method_13_code
def yX4_type : MethodName := ⟨RX4, "type", "(JI)I"⟩
abbrev cX4_clear : ByteArray := prog_1_method_14_code
def yX4_clear : MethodName := ⟨RX4, "clear", "()I"⟩
abbrev cX4_charter : ByteArray := prog_1_method_15_code
def yX4_charter : MethodName := ⟨RX4, "charter", "(I)I"⟩
abbrev cX4_term : ByteArray := prog_1_method_16_code
def yX4_term : MethodName := ⟨RX4, "term", "(II)I"⟩
abbrev cX4_owed : ByteArray := prog_1_method_17_code
def yX4_owed : MethodName := ⟨RX4, "owed", "(II)I"⟩
abbrev cX4_shared : ByteArray := prog_1_method_18_code
def yX4_shared : MethodName := ⟨RX4, "shared", "(II)I"⟩
abbrev cX4_delay : ByteArray := prog_1_method_19_code
def yX4_delay : MethodName := ⟨RX4, "delay", "(I)I"⟩
abbrev cX4_letter : ByteArray := prog_1_method_20_code
def yX4_letter : MethodName := ⟨RX4, "letter", "(II)I"⟩
abbrev cX4_foretold : ByteArray := prog_1_method_21_code
def yX4_foretold : MethodName := ⟨RX4, "foretold", "()I"⟩
abbrev cX4_count : ByteArray := prog_1_method_22_code
def yX4_count : MethodName := ⟨RX4, "count", "(I)I"⟩
abbrev cX4_trace : ByteArray := prog_1_method_23_code
def yX4_trace : MethodName := ⟨RX4, "trace", "()J"⟩
abbrev cX4_within : ByteArray := prog_1_method_24_code
def yX4_within : MethodName := ⟨RX4, "within", "(III)Z"⟩
abbrev cX4_shipNumbered : ByteArray := prog_1_method_25_code
def yX4_shipNumbered : MethodName := ⟨RX4, "shipNumbered", "(I)LRockRoad$Ship;"⟩
abbrev cX4_chutesShut : ByteArray := prog_1_method_26_code
def yX4_chutesShut : MethodName := ⟨RX4, "chutesShut", "(I)Z"⟩
abbrev cX4_lightersShut : ByteArray := prog_1_method_27_code
def yX4_lightersShut : MethodName := ⟨RX4, "lightersShut", "(I)Z"⟩
abbrev cX4_letOneDayGo : ByteArray := prog_1_method_28_code
def yX4_letOneDayGo : MethodName := ⟨RX4, "letOneDayGo", "()V"⟩
abbrev cX4_lineUp : ByteArray := prog_1_method_29_code
def yX4_lineUp : MethodName := ⟨RX4, "lineUp", "()I"⟩
abbrev cX4_standInLine : ByteArray := prog_1_method_30_code
def yX4_standInLine : MethodName := ⟨RX4, "standInLine", "(LRockRoad$Ship;I)V"⟩
abbrev cX4_loadLine : ByteArray := prog_1_method_31_code
def yX4_loadLine : MethodName := ⟨RX4, "loadLine", "(I)I"⟩
abbrev cX4_tonsAt : ByteArray := prog_1_method_32_code
def yX4_tonsAt : MethodName := ⟨RX4, "tonsAt", "(I)I"⟩
abbrev cX4_tonsWanted : ByteArray := prog_1_method_33_code
def yX4_tonsWanted : MethodName := ⟨RX4, "tonsWanted", "()I"⟩
abbrev cX4_loadedShips : ByteArray := prog_1_method_34_code
def yX4_loadedShips : MethodName := ⟨RX4, "loadedShips", "()I"⟩
abbrev cX4_dryShips : ByteArray := prog_1_method_35_code
def yX4_dryShips : MethodName := ⟨RX4, "dryShips", "()I"⟩
abbrev cX4_lastDayOf : ByteArray := prog_1_method_36_code
def yX4_lastDayOf : MethodName := ⟨RX4, "lastDayOf", "(LRockRoad$Ship;)I"⟩
abbrev cX4_counts : ByteArray := prog_1_method_37_code
def yX4_counts : MethodName := ⟨RX4, "counts", "(LRockRoad$Ship;I)Z"⟩
abbrev cX4_usedBy : ByteArray := prog_1_method_38_code
def yX4_usedBy : MethodName := ⟨RX4, "usedBy", "(LRockRoad$Ship;)I"⟩
abbrev cX4_owedBy : ByteArray := prog_1_method_39_code
def yX4_owedBy : MethodName := ⟨RX4, "owedBy", "(LRockRoad$Ship;)I"⟩
abbrev cX4_shareOf : ByteArray := prog_1_method_40_code
def yX4_shareOf : MethodName := ⟨RX4, "shareOf", "(LRockRoad$Ship;I)I"⟩
def RX5 : String := "RockRoadModel"
def TX5 : u_T := fun k => match k with
  | 0 => ("RockRoadModel", "thrown", "I", false)
  | 1 => ("RockRoadModel", "trace", "J", false)
  | 2 => ("RockRoadModel", "today", "I", false)
  | 3 => ("RockRoadModel", "swell", "[I", true)
  | 4 => ("RockRoadModel", "layers", "I", false)
  | 5 => ("RockRoadModel", "tons", "[I", true)
  | 6 => ("RockRoadModel", "worth", "[I", true)
  | 7 => ("RockRoadModel", "ships", "I", false)
  | 8 => ("RockRoadModel", "kind", "[I", true)
  | 9 => ("RockRoadModel", "came", "[I", true)
  | 10 => ("RockRoadModel", "wants", "[I", true)
  | 11 => ("RockRoadModel", "water", "[I", true)
  | 12 => ("RockRoadModel", "done", "[I", true)
  | 13 => ("RockRoadModel", "cargo", "[I", true)
  | 14 => ("RockRoadModel", "took", "[I", true)
  | 15 => ("RockRoadModel", "queue", "[I", true)
  | 16 => ("RockRoadModel", "dug", "[I", true)
  | 17 => ("RockRoadModel", "comes", "[I", true)
  | 18 => ("RockRoadModel", "delay", "I", false)
  | 19 => ("RockRoadModel", "dugEver", "I", false)
  | 20 => ("RockRoadModel", "draft", "[I", true)
  | 21 => ("RockRoadModel", "drafted", "I", false)
  | 22 => ("RockRoadModel", "terms", "[I", true)
  | 23 => ("RockRoadModel", "read", "[I", true)
  | _ => ("RockRoadModel", "isMet", "[Z", true)
def tyX5 : Nat → FieldType := fun k => match k with
  | 0 => .int
  | 1 => .long
  | 2 => .int
  | 3 => .array .int
  | 4 => .int
  | 5 => .array .int
  | 6 => .array .int
  | 7 => .int
  | 8 => .array .int
  | 9 => .array .int
  | 10 => .array .int
  | 11 => .array .int
  | 12 => .array .int
  | 13 => .array .int
  | 14 => .array .int
  | 15 => .array .int
  | 16 => .array .int
  | 17 => .array .int
  | 18 => .int
  | 19 => .int
  | 20 => .array .int
  | 21 => .int
  | 22 => .array .int
  | 23 => .array .int
  | _ => .array .boolean
abbrev wsX50 : List Cond := u_ws RX5 TX5 25
theorem nmX5 : ∀ a, a < 25 → ∀ b, b < 25 → a ≠ b → (TX5 a).2.1 ≠ (TX5 b).2.1 := by decide +kernel
theorem tyX5_ok : ∀ k, k < 25 → parseFieldDescriptor (TX5 k).2.2.1 = some (tyX5 k) := by decide +kernel
abbrev cX5_init : ByteArray := prog_7_method_1_code
def yX5_init : MethodName := ⟨RX5, "<init>", "()V"⟩
abbrev cX5_in : ByteArray := prog_7_method_3_code
def yX5_in : MethodName := ⟨RX5, "in", "(III)Z"⟩
abbrev cX5_layer : ByteArray := prog_7_method_4_code
def yX5_layer : MethodName := ⟨RX5, "layer", "(II)I"⟩
abbrev cX5_left : ByteArray := prog_7_method_5_code
def yX5_left : MethodName := ⟨RX5, "left", "(I)I"⟩
abbrev cX5_swell : ByteArray := prog_7_method_6_code
def yX5_swell : MethodName := ⟨RX5, "swell", "(II)I"⟩
abbrev cX5_isShip : ByteArray := prog_7_method_7_code
def yX5_isShip : MethodName := ⟨RX5, "isShip", "(I)Z"⟩
abbrev cX5_ship : ByteArray := prog_7_method_8_code
def yX5_ship : MethodName := ⟨RX5, "ship", "(III)I"⟩
abbrev cX5_turnOf : ByteArray := prog_7_method_9_code
def yX5_turnOf : MethodName := ⟨RX5, "turnOf", "(I)I"⟩
abbrev cX5_turn : ByteArray := prog_7_method_10_code
def yX5_turn : MethodName := ⟨RX5, "turn", "(I)I"⟩
abbrev cX5_isLoaded : ByteArray := prog_7_method_11_code
def yX5_isLoaded : MethodName := ⟨RX5, "isLoaded", "(I)Z"⟩
abbrev cX5_loads : ByteArray := prog_7_method_12_code
def yX5_loads : MethodName := ⟨RX5, "loads", "(II)I"⟩
abbrev cX5_goes : ByteArray := prog_7_method_13_code
def yX5_goes : MethodName := ⟨RX5, "goes", "()V"⟩
abbrev cX5_days : ByteArray := prog_7_method_14_code
def yX5_days : MethodName := ⟨RX5, "days", "(I)I"⟩
abbrev cX5_tonsOf : ByteArray := prog_7_method_15_code
def yX5_tonsOf : MethodName := ⟨RX5, "tonsOf", "(I)I"⟩
abbrev cX5_worthOf : ByteArray := prog_7_method_16_code
def yX5_worthOf : MethodName := ⟨RX5, "worthOf", "(I)I"⟩
abbrev cX5_about : ByteArray := prog_7_method_17_code
def yX5_about : MethodName := ⟨RX5, "about", "(II)I"⟩
abbrev cX5_cargo : ByteArray := prog_7_method_18_code
def yX5_cargo : MethodName := ⟨RX5, "cargo", "(II)I"⟩
abbrev cX5_loaded : ByteArray := prog_7_method_19_code
def yX5_loaded : MethodName := ⟨RX5, "loaded", "(II)I"⟩
abbrev cX5_boat : ByteArray := prog_7_method_20_code
def yX5_boat : MethodName := ⟨RX5, "boat", "(II)I"⟩
abbrev cX5_sample : ByteArray := prog_7_method_21_code
def yX5_sample : MethodName := ⟨RX5, "sample", "(II)I"⟩
abbrev cX5_type : ByteArray := prog_7_method_22_code
def yX5_type : MethodName := ⟨RX5, "type", "(JI)I"⟩
abbrev cX5_clear : ByteArray := prog_7_method_23_code
def yX5_clear : MethodName := ⟨RX5, "clear", "()I"⟩
abbrev cX5_isDigit : ByteArray := prog_7_method_24_code
def yX5_isDigit : MethodName := ⟨RX5, "isDigit", "(I)Z"⟩
abbrev cX5_faultOf : ByteArray := prog_7_method_25_code
def yX5_faultOf : MethodName := ⟨RX5, "faultOf", "()I"⟩
abbrev cX5_charter : ByteArray := prog_7_method_26_code
def yX5_charter : MethodName := ⟨RX5, "charter", "(I)I"⟩
abbrev cX5_term : ByteArray := prog_7_method_27_code
def yX5_term : MethodName := ⟨RX5, "term", "(II)I"⟩
abbrev cX5_counts : ByteArray := prog_7_method_28_code
def yX5_counts : MethodName := ⟨RX5, "counts", "(II)Z"⟩
abbrev cX5_last : ByteArray := prog_7_method_29_code
def yX5_last : MethodName := ⟨RX5, "last", "(I)I"⟩
abbrev cX5_usedOf : ByteArray := prog_7_method_30_code
def yX5_usedOf : MethodName := ⟨RX5, "usedOf", "(I)I"⟩
abbrev cX5_owed : ByteArray := prog_7_method_31_code
def yX5_owed : MethodName := ⟨RX5, "owed", "(II)I"⟩
abbrev cX5_shared : ByteArray := prog_7_method_32_code
def yX5_shared : MethodName := ⟨RX5, "shared", "(II)I"⟩
abbrev cX5_delay : ByteArray := prog_7_method_33_code
def yX5_delay : MethodName := ⟨RX5, "delay", "(I)I"⟩
abbrev cX5_isHere : ByteArray := prog_7_method_34_code
def yX5_isHere : MethodName := ⟨RX5, "isHere", "(I)Z"⟩
abbrev cX5_letter : ByteArray := prog_7_method_35_code
def yX5_letter : MethodName := ⟨RX5, "letter", "(II)I"⟩
abbrev cX5_foretold : ByteArray := prog_7_method_36_code
def yX5_foretold : MethodName := ⟨RX5, "foretold", "()I"⟩
abbrev cX5_count : ByteArray := prog_7_method_37_code
def yX5_count : MethodName := ⟨RX5, "count", "(I)I"⟩
abbrev cX5_trace : ByteArray := prog_7_method_38_code
def yX5_trace : MethodName := ⟨RX5, "trace", "()J"⟩
def RL : String := "RockRoadLaw"
abbrev cL_law : ByteArray := code
def yL_law : MethodName := ⟨RL, "law", "([I)Z"⟩
abbrev vwCl : List vw_C := [(RX0, TX0, 3), (RX1, TX1, 3), (RX2, TX2, 3), (RX3, TX3, 10), (RX4, TX4, 10), (RX5, TX5, 25)]
def lw_all : List Cond := lw_tbl.filter goodWord
theorem lw_m {w : Cond} (h : w ∈ lw_tbl) (hg : goodWord w = true) : w ∈ lw_all := List.mem_filter.mpr ⟨h, hg⟩
theorem lw_gd {w : Cond} (h : w ∈ lw_all) : w ∈ lw_all ∧ ((w.onTables && w.keeps) = true ∨ ∃ ty, w = .arrayClass ty) := ⟨h, good_of_word (List.mem_filter.mp h).2⟩
/-- a method's words: its code, then all the tables -/
abbrev wM (y : MethodName) (b : ByteArray) (n : Nat) (r : Option FieldType) : List Cond := Cond.code y b n r :: lw_all
theorem wM_V {own C : String} {idx : Nat} {y : MethodName} {b : ByteArray} {n : Nat} {r : Option FieldType} (h1 : Cond.methodLink own idx y ∈ lw_all) (h2 : Cond.instanceMethod y ∈ lw_all) (h3 : Cond.selects C y y ∈ lw_all) (h4 : Cond.initialized C ∈ lw_all) (h5 : Cond.code y b n r ∈ lw_all) : GoodIn lw_all (wsV own idx C y (wM y b n r)) := by
  intro w hw
  have hw : w ∈ ([.methodLink own idx y, .instanceMethod y, .selects C y y, .initialized C] : List Cond) ++ (Cond.code y b n r :: lw_all) := hw
  simp only [List.mem_append, List.mem_cons, List.not_mem_nil, or_false] at hw
  rcases hw with (rfl | rfl | rfl | rfl) | rfl | hw
  · exact lw_gd h1
  · exact lw_gd h2
  · exact lw_gd h3
  · exact lw_gd h4
  · exact lw_gd h5
  · exact lw_gd hw
theorem wM_S {own : String} {idx : Nat} {y : MethodName} {b : ByteArray} {n : Nat} {r : Option FieldType} (h1 : Cond.methodLink own idx y ∈ lw_all) (h2 : Cond.static y ∈ lw_all) (h4 : Cond.initialized y.cls ∈ lw_all) (h5 : Cond.code y b n r ∈ lw_all) : GoodIn lw_all (va_wsS own idx y (wM y b n r)) := by
  intro w hw
  have hw : w ∈ ([.methodLink own idx y, .static y, .initialized y.cls] : List Cond) ++ (Cond.code y b n r :: lw_all) := hw
  simp only [List.mem_append, List.mem_cons, List.not_mem_nil, or_false] at hw
  rcases hw with (rfl | rfl | rfl) | rfl | hw
  · exact lw_gd h1
  · exact lw_gd h2
  · exact lw_gd h4
  · exact lw_gd h5
  · exact lw_gd hw
theorem wM_I {y : MethodName} {b : ByteArray} {n : Nat} {r : Option FieldType} (h5 : Cond.code y b n r ∈ lw_all) : GoodIn lw_all (wM y b n r) := by
  intro w hw
  rcases List.mem_cons.mp hw with rfl | hw
  · exact lw_gd h5
  · exact lw_gd hw
theorem inX0 : ∀ w ∈ wsX00, w ∈ lw_all := fun w h => lw_m ((show ∀ w ∈ wsX00, w ∈ lw_tbl by decide +kernel) w h) ((show ∀ w ∈ wsX00, goodWord w = true by decide +kernel) w h)
theorem inX1 : ∀ w ∈ wsX10, w ∈ lw_all := fun w h => lw_m ((show ∀ w ∈ wsX10, w ∈ lw_tbl by decide +kernel) w h) ((show ∀ w ∈ wsX10, goodWord w = true by decide +kernel) w h)
theorem inX2 : ∀ w ∈ wsX20, w ∈ lw_all := fun w h => lw_m ((show ∀ w ∈ wsX20, w ∈ lw_tbl by decide +kernel) w h) ((show ∀ w ∈ wsX20, goodWord w = true by decide +kernel) w h)
theorem inX3 : ∀ w ∈ wsX30, w ∈ lw_all := fun w h => lw_m ((show ∀ w ∈ wsX30, w ∈ lw_tbl by decide +kernel) w h) ((show ∀ w ∈ wsX30, goodWord w = true by decide +kernel) w h)
theorem inX4 : ∀ w ∈ wsX40, w ∈ lw_all := fun w h => lw_m ((show ∀ w ∈ wsX40, w ∈ lw_tbl by decide +kernel) w h) ((show ∀ w ∈ wsX40, goodWord w = true by decide +kernel) w h)
theorem inX5 : ∀ w ∈ wsX50, w ∈ lw_all := fun w h => lw_m ((show ∀ w ∈ wsX50, w ∈ lw_tbl by decide +kernel) w h) ((show ∀ w ∈ wsX50, goodWord w = true by decide +kernel) w h)
theorem ks_X4_shipNumbered : Cond.selects RX4 yX4_shipNumbered yX4_shipNumbered ∈ lw_all := lw_m (List.mem_of_getElem? (i := 0) (by decide +kernel)) rfl
theorem ks_X4_letOneDayGo : Cond.selects RX4 yX4_letOneDayGo yX4_letOneDayGo ∈ lw_all := lw_m (List.mem_of_getElem? (i := 1) (by decide +kernel)) rfl
theorem ks_X4_lineUp : Cond.selects RX4 yX4_lineUp yX4_lineUp ∈ lw_all := lw_m (List.mem_of_getElem? (i := 2) (by decide +kernel)) rfl
theorem ks_X4_standInLine : Cond.selects RX4 yX4_standInLine yX4_standInLine ∈ lw_all := lw_m (List.mem_of_getElem? (i := 3) (by decide +kernel)) rfl
theorem ks_X4_loadLine : Cond.selects RX4 yX4_loadLine yX4_loadLine ∈ lw_all := lw_m (List.mem_of_getElem? (i := 4) (by decide +kernel)) rfl
theorem ks_X4_tonsAt : Cond.selects RX4 yX4_tonsAt yX4_tonsAt ∈ lw_all := lw_m (List.mem_of_getElem? (i := 5) (by decide +kernel)) rfl
theorem ks_X4_chutesShut : Cond.selects RX4 yX4_chutesShut yX4_chutesShut ∈ lw_all := lw_m (List.mem_of_getElem? (i := 6) (by decide +kernel)) rfl
theorem ks_X4_lightersShut : Cond.selects RX4 yX4_lightersShut yX4_lightersShut ∈ lw_all := lw_m (List.mem_of_getElem? (i := 7) (by decide +kernel)) rfl
theorem ks_X4_tonsWanted : Cond.selects RX4 yX4_tonsWanted yX4_tonsWanted ∈ lw_all := lw_m (List.mem_of_getElem? (i := 8) (by decide +kernel)) rfl
theorem ks_X0_addDigit : Cond.selects RX0 yX0_addDigit yX0_addDigit ∈ lw_all := lw_m (List.mem_of_getElem? (i := 9) (by decide +kernel)) rfl
theorem ks_X4_usedBy : Cond.selects RX4 yX4_usedBy yX4_usedBy ∈ lw_all := lw_m (List.mem_of_getElem? (i := 10) (by decide +kernel)) rfl
theorem ks_X4_lastDayOf : Cond.selects RX4 yX4_lastDayOf yX4_lastDayOf ∈ lw_all := lw_m (List.mem_of_getElem? (i := 11) (by decide +kernel)) rfl
theorem ks_X4_counts : Cond.selects RX4 yX4_counts yX4_counts ∈ lw_all := lw_m (List.mem_of_getElem? (i := 12) (by decide +kernel)) rfl
theorem ks_X4_owedBy : Cond.selects RX4 yX4_owedBy yX4_owedBy ∈ lw_all := lw_m (List.mem_of_getElem? (i := 13) (by decide +kernel)) rfl
theorem ks_X4_shareOf : Cond.selects RX4 yX4_shareOf yX4_shareOf ∈ lw_all := lw_m (List.mem_of_getElem? (i := 14) (by decide +kernel)) rfl
theorem ks_X2_latestCome : Cond.selects RX2 yX2_latestCome yX2_latestCome ∈ lw_all := lw_m (List.mem_of_getElem? (i := 15) (by decide +kernel)) rfl
theorem ks_X4_loadedShips : Cond.selects RX4 yX4_loadedShips yX4_loadedShips ∈ lw_all := lw_m (List.mem_of_getElem? (i := 16) (by decide +kernel)) rfl
theorem ks_X4_dryShips : Cond.selects RX4 yX4_dryShips yX4_dryShips ∈ lw_all := lw_m (List.mem_of_getElem? (i := 17) (by decide +kernel)) rfl
theorem ks_X5_isShip : Cond.selects RX5 yX5_isShip yX5_isShip ∈ lw_all := lw_m (List.mem_of_getElem? (i := 18) (by decide +kernel)) rfl
theorem ks_X5_turnOf : Cond.selects RX5 yX5_turnOf yX5_turnOf ∈ lw_all := lw_m (List.mem_of_getElem? (i := 19) (by decide +kernel)) rfl
theorem ks_X5_goes : Cond.selects RX5 yX5_goes yX5_goes ∈ lw_all := lw_m (List.mem_of_getElem? (i := 20) (by decide +kernel)) rfl
theorem ks_X5_isLoaded : Cond.selects RX5 yX5_isLoaded yX5_isLoaded ∈ lw_all := lw_m (List.mem_of_getElem? (i := 21) (by decide +kernel)) rfl
theorem ks_X5_loads : Cond.selects RX5 yX5_loads yX5_loads ∈ lw_all := lw_m (List.mem_of_getElem? (i := 22) (by decide +kernel)) rfl
theorem ks_X5_tonsOf : Cond.selects RX5 yX5_tonsOf yX5_tonsOf ∈ lw_all := lw_m (List.mem_of_getElem? (i := 23) (by decide +kernel)) rfl
theorem ks_X5_worthOf : Cond.selects RX5 yX5_worthOf yX5_worthOf ∈ lw_all := lw_m (List.mem_of_getElem? (i := 24) (by decide +kernel)) rfl
theorem ks_X5_faultOf : Cond.selects RX5 yX5_faultOf yX5_faultOf ∈ lw_all := lw_m (List.mem_of_getElem? (i := 25) (by decide +kernel)) rfl
theorem ks_X5_isDigit : Cond.selects RX5 yX5_isDigit yX5_isDigit ∈ lw_all := lw_m (List.mem_of_getElem? (i := 26) (by decide +kernel)) rfl
theorem ks_X5_usedOf : Cond.selects RX5 yX5_usedOf yX5_usedOf ∈ lw_all := lw_m (List.mem_of_getElem? (i := 27) (by decide +kernel)) rfl
theorem ks_X5_last : Cond.selects RX5 yX5_last yX5_last ∈ lw_all := lw_m (List.mem_of_getElem? (i := 28) (by decide +kernel)) rfl
theorem ks_X5_counts : Cond.selects RX5 yX5_counts yX5_counts ∈ lw_all := lw_m (List.mem_of_getElem? (i := 29) (by decide +kernel)) rfl
theorem ks_X5_isHere : Cond.selects RX5 yX5_isHere yX5_isHere ∈ lw_all := lw_m (List.mem_of_getElem? (i := 30) (by decide +kernel)) rfl
theorem kn_L : Cond.initialized RL ∈ lw_all := lw_m (List.mem_of_getElem? (i := 31) (by decide +kernel)) rfl
theorem kn_X4 : Cond.initialized RX4 ∈ lw_all := lw_m (List.mem_of_getElem? (i := 32) (by decide +kernel)) rfl
theorem kn_X1 : Cond.initialized RX1 ∈ lw_all := lw_m (List.mem_of_getElem? (i := 33) (by decide +kernel)) rfl
theorem kn_X0 : Cond.initialized RX0 ∈ lw_all := lw_m (List.mem_of_getElem? (i := 34) (by decide +kernel)) rfl
theorem kn_X2 : Cond.initialized RX2 ∈ lw_all := lw_m (List.mem_of_getElem? (i := 35) (by decide +kernel)) rfl
theorem kn_X5 : Cond.initialized RX5 ∈ lw_all := lw_m (List.mem_of_getElem? (i := 36) (by decide +kernel)) rfl
theorem kn_X3 : Cond.initialized RX3 ∈ lw_all := lw_m (List.mem_of_getElem? (i := 37) (by decide +kernel)) rfl
theorem kn_Math : Cond.initialized "java/lang/Math" ∈ lw_all := lw_m (List.mem_of_getElem? (i := 38) (by decide +kernel)) rfl
theorem kn_System : Cond.initialized "java/lang/System" ∈ lw_all := lw_m (List.mem_of_getElem? (i := 39) (by decide +kernel)) rfl
theorem klL_7 : Cond.classLink RL 7 RX4 ∈ lw_all := lw_m (List.mem_of_getElem? (i := 40) (by decide +kernel)) rfl
theorem kq_X4 : Cond.instantiable RX4 10 ∈ lw_all := lw_m (List.mem_of_getElem? (i := 41) (by decide +kernel)) rfl
theorem kmL_9 : Cond.methodLink RL 9 yX4_init ∈ lw_all := lw_m (List.mem_of_getElem? (i := 42) (by decide +kernel)) rfl
theorem ki_X4_init : Cond.instanceMethod yX4_init ∈ lw_all := lw_m (List.mem_of_getElem? (i := 43) (by decide +kernel)) rfl
theorem kc_X4_init : Cond.code yX4_init cX4_init 1 (none : Option FieldType) ∈ lw_all := lw_m (List.mem_of_getElem? (i := 44) (by decide +kernel)) rfl
theorem kmX4_1 : Cond.methodLink RX4 1 objectInit ∈ lw_all := lw_m (List.mem_of_getElem? (i := 45) (by decide +kernel)) rfl
theorem ki_O_init : Cond.instanceMethod objectInit ∈ lw_all := lw_m (List.mem_of_getElem? (i := 46) (by decide +kernel)) rfl
theorem kc_O_init : Cond.code objectInit ⟨#[0xb1]⟩ 1 (none : Option FieldType) ∈ lw_all := lw_m (List.mem_of_getElem? (i := 47) (by decide +kernel)) rfl
theorem klX4_13 : Cond.classLink RX4 13 RX1 ∈ lw_all := lw_m (List.mem_of_getElem? (i := 48) (by decide +kernel)) rfl
theorem kq_X1 : Cond.instantiable RX1 3 ∈ lw_all := lw_m (List.mem_of_getElem? (i := 49) (by decide +kernel)) rfl
theorem kmnX4_15 : Cond.methodLinkNest RX4 15 yX1_init "RockRoad" ∈ lw_tbl := List.mem_of_getElem? (i := 50) (by decide +kernel)
theorem ki_X1_init : Cond.instanceMethod yX1_init ∈ lw_all := lw_m (List.mem_of_getElem? (i := 51) (by decide +kernel)) rfl
theorem kc_X1_init : Cond.code yX1_init cX1_init 1 (none : Option FieldType) ∈ lw_all := lw_m (List.mem_of_getElem? (i := 52) (by decide +kernel)) rfl
theorem kmX1_3 : Cond.methodLink RX1 3 objectInit ∈ lw_all := lw_m (List.mem_of_getElem? (i := 53) (by decide +kernel)) rfl
theorem kfX1_9 : Cond.fieldLink RX1 9 "RockRoad$Layers" "tons" "[I" ∈ lw_all := lw_m (List.mem_of_getElem? (i := 54) (by decide +kernel)) rfl
theorem kfX4_72 : Cond.fieldLink RX4 72 "RockRoad$Layers" "tons" "[I" ∈ lw_all := lw_m (List.mem_of_getElem? (i := 55) (by decide +kernel)) rfl
theorem kfX1_15 : Cond.fieldLink RX1 15 "RockRoad$Layers" "worths" "[I" ∈ lw_all := lw_m (List.mem_of_getElem? (i := 56) (by decide +kernel)) rfl
theorem kfX1_18 : Cond.fieldLink RX1 18 "RockRoad$Layers" "size" "I" ∈ lw_all := lw_m (List.mem_of_getElem? (i := 57) (by decide +kernel)) rfl
theorem kfX4_61 : Cond.fieldLink RX4 61 "RockRoad$Layers" "size" "I" ∈ lw_all := lw_m (List.mem_of_getElem? (i := 58) (by decide +kernel)) rfl
theorem ka_int : Cond.arrayClass .int ∈ lw_all := lw_m (List.mem_of_getElem? (i := 66) (by decide +kernel)) rfl
theorem klX4_20 : Cond.classLink RX4 20 RX3 ∈ lw_all := lw_m (List.mem_of_getElem? (i := 67) (by decide +kernel)) rfl
theorem kao : Cond.arrayOver (.object "RockRoad$Ship") ∈ lw_tbl := List.mem_of_getElem? (i := 68) (by decide +kernel)
theorem klX4_29 : Cond.classLink RX4 29 RX0 ∈ lw_all := lw_m (List.mem_of_getElem? (i := 69) (by decide +kernel)) rfl
theorem kq_X0 : Cond.instantiable RX0 3 ∈ lw_all := lw_m (List.mem_of_getElem? (i := 70) (by decide +kernel)) rfl
theorem kmnX4_31 : Cond.methodLinkNest RX4 31 yX0_init "RockRoad" ∈ lw_tbl := List.mem_of_getElem? (i := 71) (by decide +kernel)
theorem ki_X0_init : Cond.instanceMethod yX0_init ∈ lw_all := lw_m (List.mem_of_getElem? (i := 72) (by decide +kernel)) rfl
theorem kc_X0_init : Cond.code yX0_init cX0_init 1 (none : Option FieldType) ∈ lw_all := lw_m (List.mem_of_getElem? (i := 73) (by decide +kernel)) rfl
theorem kmX0_3 : Cond.methodLink RX0 3 objectInit ∈ lw_all := lw_m (List.mem_of_getElem? (i := 74) (by decide +kernel)) rfl
theorem kfX0_9 : Cond.fieldLink RX0 9 "RockRoad$Draft" "bytes" "[I" ∈ lw_all := lw_m (List.mem_of_getElem? (i := 75) (by decide +kernel)) rfl
theorem kfX0_15 : Cond.fieldLink RX0 15 "RockRoad$Draft" "terms" "[I" ∈ lw_all := lw_m (List.mem_of_getElem? (i := 76) (by decide +kernel)) rfl
theorem kfX4_143 : Cond.fieldLink RX4 143 "RockRoad$Draft" "terms" "[I" ∈ lw_all := lw_m (List.mem_of_getElem? (i := 77) (by decide +kernel)) rfl
theorem kfX0_18 : Cond.fieldLink RX0 18 "RockRoad$Draft" "length" "I" ∈ lw_all := lw_m (List.mem_of_getElem? (i := 78) (by decide +kernel)) rfl
theorem kfX4_132 : Cond.fieldLink RX4 132 "RockRoad$Draft" "length" "I" ∈ lw_all := lw_m (List.mem_of_getElem? (i := 79) (by decide +kernel)) rfl
theorem klX4_36 : Cond.classLink RX4 36 RX2 ∈ lw_all := lw_m (List.mem_of_getElem? (i := 87) (by decide +kernel)) rfl
theorem kq_X2 : Cond.instantiable RX2 3 ∈ lw_all := lw_m (List.mem_of_getElem? (i := 88) (by decide +kernel)) rfl
theorem kmnX4_38 : Cond.methodLinkNest RX4 38 yX2_init "RockRoad" ∈ lw_tbl := List.mem_of_getElem? (i := 89) (by decide +kernel)
theorem ki_X2_init : Cond.instanceMethod yX2_init ∈ lw_all := lw_m (List.mem_of_getElem? (i := 90) (by decide +kernel)) rfl
theorem kc_X2_init : Cond.code yX2_init cX2_init 1 (none : Option FieldType) ∈ lw_all := lw_m (List.mem_of_getElem? (i := 91) (by decide +kernel)) rfl
theorem kmX2_3 : Cond.methodLink RX2 3 objectInit ∈ lw_all := lw_m (List.mem_of_getElem? (i := 92) (by decide +kernel)) rfl
theorem kfX2_9 : Cond.fieldLink RX2 9 "RockRoad$Letters" "queues" "[I" ∈ lw_all := lw_m (List.mem_of_getElem? (i := 93) (by decide +kernel)) rfl
theorem kfX4_175 : Cond.fieldLink RX4 175 "RockRoad$Letters" "queues" "[I" ∈ lw_all := lw_m (List.mem_of_getElem? (i := 94) (by decide +kernel)) rfl
theorem kfX2_15 : Cond.fieldLink RX2 15 "RockRoad$Letters" "dug" "[I" ∈ lw_all := lw_m (List.mem_of_getElem? (i := 95) (by decide +kernel)) rfl
theorem kfX4_178 : Cond.fieldLink RX4 178 "RockRoad$Letters" "dug" "[I" ∈ lw_all := lw_m (List.mem_of_getElem? (i := 96) (by decide +kernel)) rfl
theorem kfX2_18 : Cond.fieldLink RX2 18 "RockRoad$Letters" "comings" "[I" ∈ lw_all := lw_m (List.mem_of_getElem? (i := 97) (by decide +kernel)) rfl
theorem kfX4_172 : Cond.fieldLink RX4 172 "RockRoad$Letters" "comings" "[I" ∈ lw_all := lw_m (List.mem_of_getElem? (i := 98) (by decide +kernel)) rfl
theorem kfX4_9 : Cond.fieldLink RX4 9 "RockRoad" "swells" "[I" ∈ lw_all := lw_m (List.mem_of_getElem? (i := 106) (by decide +kernel)) rfl
theorem kfX4_16 : Cond.fieldLink RX4 16 "RockRoad" "layers" "LRockRoad$Layers;" ∈ lw_all := lw_m (List.mem_of_getElem? (i := 107) (by decide +kernel)) rfl
theorem kfX4_22 : Cond.fieldLink RX4 22 "RockRoad" "ships" "[LRockRoad$Ship;" ∈ lw_all := lw_m (List.mem_of_getElem? (i := 108) (by decide +kernel)) rfl
theorem kfX4_26 : Cond.fieldLink RX4 26 "RockRoad" "line" "[LRockRoad$Ship;" ∈ lw_all := lw_m (List.mem_of_getElem? (i := 109) (by decide +kernel)) rfl
theorem kfX4_32 : Cond.fieldLink RX4 32 "RockRoad" "draft" "LRockRoad$Draft;" ∈ lw_all := lw_m (List.mem_of_getElem? (i := 110) (by decide +kernel)) rfl
theorem kfX4_39 : Cond.fieldLink RX4 39 "RockRoad" "letters" "LRockRoad$Letters;" ∈ lw_all := lw_m (List.mem_of_getElem? (i := 111) (by decide +kernel)) rfl
theorem kfX4_43 : Cond.fieldLink RX4 43 "RockRoad" "today" "I" ∈ lw_all := lw_m (List.mem_of_getElem? (i := 112) (by decide +kernel)) rfl
theorem kfX4_47 : Cond.fieldLink RX4 47 "RockRoad" "shipCount" "I" ∈ lw_all := lw_m (List.mem_of_getElem? (i := 113) (by decide +kernel)) rfl
theorem kfX4_50 : Cond.fieldLink RX4 50 "RockRoad" "delay" "I" ∈ lw_all := lw_m (List.mem_of_getElem? (i := 114) (by decide +kernel)) rfl
theorem kfX4_53 : Cond.fieldLink RX4 53 "RockRoad" "trace" "J" ∈ lw_all := lw_m (List.mem_of_getElem? (i := 115) (by decide +kernel)) rfl
theorem kmL_13 : Cond.methodLink RL 13 yX4_layer ∈ lw_all := lw_m (List.mem_of_getElem? (i := 137) (by decide +kernel)) rfl
theorem ki_X4_layer : Cond.instanceMethod yX4_layer ∈ lw_all := lw_m (List.mem_of_getElem? (i := 138) (by decide +kernel)) rfl
theorem ks_X4_layer : Cond.selects RX4 yX4_layer yX4_layer ∈ lw_all := lw_m (List.mem_of_getElem? (i := 139) (by decide +kernel)) rfl
theorem kc_X4_layer : Cond.code yX4_layer cX4_layer 3 (some FieldType.int) ∈ lw_all := lw_m (List.mem_of_getElem? (i := 140) (by decide +kernel)) rfl
theorem kmX4_57 : Cond.methodLink RX4 57 yX4_within ∈ lw_all := lw_m (List.mem_of_getElem? (i := 141) (by decide +kernel)) rfl
theorem kt_X4_within : Cond.static yX4_within ∈ lw_all := lw_m (List.mem_of_getElem? (i := 142) (by decide +kernel)) rfl
theorem kc_X4_within : Cond.code yX4_within cX4_within 3 (some FieldType.boolean) ∈ lw_all := lw_m (List.mem_of_getElem? (i := 143) (by decide +kernel)) rfl
theorem kmX4_64 : Cond.methodLink RX4 64 yX1_lay ∈ lw_all := lw_m (List.mem_of_getElem? (i := 144) (by decide +kernel)) rfl
theorem ki_X1_lay : Cond.instanceMethod yX1_lay ∈ lw_all := lw_m (List.mem_of_getElem? (i := 145) (by decide +kernel)) rfl
theorem ks_X1_lay : Cond.selects RX1 yX1_lay yX1_lay ∈ lw_all := lw_m (List.mem_of_getElem? (i := 146) (by decide +kernel)) rfl
theorem kc_X1_lay : Cond.code yX1_lay cX1_lay 3 (some FieldType.int) ∈ lw_all := lw_m (List.mem_of_getElem? (i := 147) (by decide +kernel)) rfl
theorem kmL_18 : Cond.methodLink RL 18 yX4_left ∈ lw_all := lw_m (List.mem_of_getElem? (i := 148) (by decide +kernel)) rfl
theorem ki_X4_left : Cond.instanceMethod yX4_left ∈ lw_all := lw_m (List.mem_of_getElem? (i := 149) (by decide +kernel)) rfl
theorem ks_X4_left : Cond.selects RX4 yX4_left yX4_left ∈ lw_all := lw_m (List.mem_of_getElem? (i := 150) (by decide +kernel)) rfl
theorem kc_X4_left : Cond.code yX4_left cX4_left 2 (some FieldType.int) ∈ lw_all := lw_m (List.mem_of_getElem? (i := 151) (by decide +kernel)) rfl
theorem kmX4_68 : Cond.methodLink RX4 68 yX1_has ∈ lw_all := lw_m (List.mem_of_getElem? (i := 152) (by decide +kernel)) rfl
theorem ki_X1_has : Cond.instanceMethod yX1_has ∈ lw_all := lw_m (List.mem_of_getElem? (i := 153) (by decide +kernel)) rfl
theorem ks_X1_has : Cond.selects RX1 yX1_has yX1_has ∈ lw_all := lw_m (List.mem_of_getElem? (i := 154) (by decide +kernel)) rfl
theorem kc_X1_has : Cond.code yX1_has cX1_has 2 (some FieldType.boolean) ∈ lw_all := lw_m (List.mem_of_getElem? (i := 155) (by decide +kernel)) rfl
theorem kmL_23 : Cond.methodLink RL 23 yX4_swell ∈ lw_all := lw_m (List.mem_of_getElem? (i := 156) (by decide +kernel)) rfl
theorem ki_X4_swell : Cond.instanceMethod yX4_swell ∈ lw_all := lw_m (List.mem_of_getElem? (i := 157) (by decide +kernel)) rfl
theorem ks_X4_swell : Cond.selects RX4 yX4_swell yX4_swell ∈ lw_all := lw_m (List.mem_of_getElem? (i := 158) (by decide +kernel)) rfl
theorem kc_X4_swell : Cond.code yX4_swell cX4_swell 4 (some FieldType.int) ∈ lw_all := lw_m (List.mem_of_getElem? (i := 159) (by decide +kernel)) rfl
theorem kmL_27 : Cond.methodLink RL 27 yX4_ship ∈ lw_all := lw_m (List.mem_of_getElem? (i := 160) (by decide +kernel)) rfl
theorem ki_X4_ship : Cond.instanceMethod yX4_ship ∈ lw_all := lw_m (List.mem_of_getElem? (i := 161) (by decide +kernel)) rfl
theorem ks_X4_ship : Cond.selects RX4 yX4_ship yX4_ship ∈ lw_all := lw_m (List.mem_of_getElem? (i := 162) (by decide +kernel)) rfl
theorem kc_X4_ship : Cond.code yX4_ship cX4_ship 4 (some FieldType.int) ∈ lw_all := lw_m (List.mem_of_getElem? (i := 163) (by decide +kernel)) rfl
theorem kq_X3 : Cond.instantiable RX3 10 ∈ lw_all := lw_m (List.mem_of_getElem? (i := 164) (by decide +kernel)) rfl
theorem kmX4_75 : Cond.methodLink RX4 75 yX3_init ∈ lw_all := lw_m (List.mem_of_getElem? (i := 165) (by decide +kernel)) rfl
theorem ki_X3_init : Cond.instanceMethod yX3_init ∈ lw_all := lw_m (List.mem_of_getElem? (i := 166) (by decide +kernel)) rfl
theorem kc_X3_init : Cond.code yX3_init cX3_init 6 (none : Option FieldType) ∈ lw_all := lw_m (List.mem_of_getElem? (i := 167) (by decide +kernel)) rfl
theorem kmX3_3 : Cond.methodLink RX3 3 objectInit ∈ lw_all := lw_m (List.mem_of_getElem? (i := 168) (by decide +kernel)) rfl
theorem kfX3_28 : Cond.fieldLink RX3 28 "RockRoad$Ship" "number" "I" ∈ lw_all := lw_m (List.mem_of_getElem? (i := 169) (by decide +kernel)) rfl
theorem kfX3_31 : Cond.fieldLink RX3 31 "RockRoad$Ship" "kind" "I" ∈ lw_all := lw_m (List.mem_of_getElem? (i := 170) (by decide +kernel)) rfl
theorem kfX4_85 : Cond.fieldLink RX4 85 "RockRoad$Ship" "kind" "I" ∈ lw_all := lw_m (List.mem_of_getElem? (i := 171) (by decide +kernel)) rfl
theorem kfX3_34 : Cond.fieldLink RX3 34 "RockRoad$Ship" "arrival" "I" ∈ lw_all := lw_m (List.mem_of_getElem? (i := 172) (by decide +kernel)) rfl
theorem kfX4_95 : Cond.fieldLink RX4 95 "RockRoad$Ship" "arrival" "I" ∈ lw_all := lw_m (List.mem_of_getElem? (i := 173) (by decide +kernel)) rfl
theorem kfX3_9 : Cond.fieldLink RX3 9 "RockRoad$Ship" "cargo" "[I" ∈ lw_all := lw_m (List.mem_of_getElem? (i := 174) (by decide +kernel)) rfl
theorem kfX4_109 : Cond.fieldLink RX4 109 "RockRoad$Ship" "cargo" "[I" ∈ lw_all := lw_m (List.mem_of_getElem? (i := 175) (by decide +kernel)) rfl
theorem kfX3_15 : Cond.fieldLink RX3 15 "RockRoad$Ship" "terms" "[I" ∈ lw_all := lw_m (List.mem_of_getElem? (i := 176) (by decide +kernel)) rfl
theorem kfX4_146 : Cond.fieldLink RX4 146 "RockRoad$Ship" "terms" "[I" ∈ lw_all := lw_m (List.mem_of_getElem? (i := 177) (by decide +kernel)) rfl
theorem kfX3_18 : Cond.fieldLink RX3 18 "RockRoad$Ship" "log" "[I" ∈ lw_all := lw_m (List.mem_of_getElem? (i := 178) (by decide +kernel)) rfl
theorem kfX4_116 : Cond.fieldLink RX4 116 "RockRoad$Ship" "log" "[I" ∈ lw_all := lw_m (List.mem_of_getElem? (i := 179) (by decide +kernel)) rfl
theorem kfX3_37 : Cond.fieldLink RX3 37 "RockRoad$Ship" "wants" "I" ∈ lw_all := lw_m (List.mem_of_getElem? (i := 180) (by decide +kernel)) rfl
theorem kfX4_98 : Cond.fieldLink RX4 98 "RockRoad$Ship" "wants" "I" ∈ lw_all := lw_m (List.mem_of_getElem? (i := 181) (by decide +kernel)) rfl
theorem kfX3_21 : Cond.fieldLink RX3 21 "RockRoad$Ship" "has" "I" ∈ lw_all := lw_m (List.mem_of_getElem? (i := 182) (by decide +kernel)) rfl
theorem kfX4_101 : Cond.fieldLink RX4 101 "RockRoad$Ship" "has" "I" ∈ lw_all := lw_m (List.mem_of_getElem? (i := 183) (by decide +kernel)) rfl
theorem kfX3_40 : Cond.fieldLink RX3 40 "RockRoad$Ship" "water" "I" ∈ lw_all := lw_m (List.mem_of_getElem? (i := 184) (by decide +kernel)) rfl
theorem kfX4_103 : Cond.fieldLink RX4 103 "RockRoad$Ship" "water" "I" ∈ lw_all := lw_m (List.mem_of_getElem? (i := 185) (by decide +kernel)) rfl
theorem kfX3_25 : Cond.fieldLink RX3 25 "RockRoad$Ship" "loadedOn" "I" ∈ lw_all := lw_m (List.mem_of_getElem? (i := 186) (by decide +kernel)) rfl
theorem kfX4_106 : Cond.fieldLink RX4 106 "RockRoad$Ship" "loadedOn" "I" ∈ lw_all := lw_m (List.mem_of_getElem? (i := 187) (by decide +kernel)) rfl
theorem kmL_32 : Cond.methodLink RL 32 yX4_turn ∈ lw_all := lw_m (List.mem_of_getElem? (i := 209) (by decide +kernel)) rfl
theorem ki_X4_turn : Cond.instanceMethod yX4_turn ∈ lw_all := lw_m (List.mem_of_getElem? (i := 210) (by decide +kernel)) rfl
theorem ks_X4_turn : Cond.selects RX4 yX4_turn yX4_turn ∈ lw_all := lw_m (List.mem_of_getElem? (i := 211) (by decide +kernel)) rfl
theorem kc_X4_turn : Cond.code yX4_turn cX4_turn 3 (some FieldType.int) ∈ lw_all := lw_m (List.mem_of_getElem? (i := 212) (by decide +kernel)) rfl
theorem kmX4_78 : Cond.methodLink RX4 78 yX4_shipNumbered ∈ lw_all := lw_m (List.mem_of_getElem? (i := 213) (by decide +kernel)) rfl
theorem ki_X4_shipNumbered : Cond.instanceMethod yX4_shipNumbered ∈ lw_all := lw_m (List.mem_of_getElem? (i := 215) (by decide +kernel)) rfl
theorem kc_X4_shipNumbered : Cond.code yX4_shipNumbered cX4_shipNumbered 2 (some (FieldType.object "RockRoad$Ship")) ∈ lw_all := lw_m (List.mem_of_getElem? (i := 216) (by decide +kernel)) rfl
theorem kfX4_82 : Cond.fieldLink RX4 82 "RockRoad" "TRACE_OF_KIND" "[I" ∈ lw_all := lw_m (List.mem_of_getElem? (i := 217) (by decide +kernel)) rfl
theorem kmX4_88 : Cond.methodLink RX4 88 yX3_turnOn ∈ lw_all := lw_m (List.mem_of_getElem? (i := 219) (by decide +kernel)) rfl
theorem ki_X3_turnOn : Cond.instanceMethod yX3_turnOn ∈ lw_all := lw_m (List.mem_of_getElem? (i := 220) (by decide +kernel)) rfl
theorem ks_X3_turnOn : Cond.selects RX3 yX3_turnOn yX3_turnOn ∈ lw_all := lw_m (List.mem_of_getElem? (i := 221) (by decide +kernel)) rfl
theorem kc_X3_turnOn : Cond.code yX3_turnOn cX3_turnOn 4 (some FieldType.int) ∈ lw_all := lw_m (List.mem_of_getElem? (i := 222) (by decide +kernel)) rfl
theorem kmL_36 : Cond.methodLink RL 36 yX4_days ∈ lw_all := lw_m (List.mem_of_getElem? (i := 223) (by decide +kernel)) rfl
theorem ki_X4_days : Cond.instanceMethod yX4_days ∈ lw_all := lw_m (List.mem_of_getElem? (i := 224) (by decide +kernel)) rfl
theorem ks_X4_days : Cond.selects RX4 yX4_days yX4_days ∈ lw_all := lw_m (List.mem_of_getElem? (i := 225) (by decide +kernel)) rfl
theorem kc_X4_days : Cond.code yX4_days cX4_days 3 (some FieldType.int) ∈ lw_all := lw_m (List.mem_of_getElem? (i := 226) (by decide +kernel)) rfl
theorem kmX4_92 : Cond.methodLink RX4 92 yX4_letOneDayGo ∈ lw_all := lw_m (List.mem_of_getElem? (i := 227) (by decide +kernel)) rfl
theorem ki_X4_letOneDayGo : Cond.instanceMethod yX4_letOneDayGo ∈ lw_all := lw_m (List.mem_of_getElem? (i := 229) (by decide +kernel)) rfl
theorem kc_X4_letOneDayGo : Cond.code yX4_letOneDayGo cX4_letOneDayGo 2 (none : Option FieldType) ∈ lw_all := lw_m (List.mem_of_getElem? (i := 230) (by decide +kernel)) rfl
theorem kmX4_193 : Cond.methodLink RX4 193 yX3_drink ∈ lw_all := lw_m (List.mem_of_getElem? (i := 231) (by decide +kernel)) rfl
theorem ki_X3_drink : Cond.instanceMethod yX3_drink ∈ lw_all := lw_m (List.mem_of_getElem? (i := 232) (by decide +kernel)) rfl
theorem ks_X3_drink : Cond.selects RX3 yX3_drink yX3_drink ∈ lw_all := lw_m (List.mem_of_getElem? (i := 233) (by decide +kernel)) rfl
theorem kc_X3_drink : Cond.code yX3_drink cX3_drink 2 (none : Option FieldType) ∈ lw_all := lw_m (List.mem_of_getElem? (i := 234) (by decide +kernel)) rfl
theorem kmX3_43 : Cond.methodLink RX3 43 yX3_isLoaded ∈ lw_all := lw_m (List.mem_of_getElem? (i := 235) (by decide +kernel)) rfl
theorem ki_X3_isLoaded : Cond.instanceMethod yX3_isLoaded ∈ lw_all := lw_m (List.mem_of_getElem? (i := 236) (by decide +kernel)) rfl
theorem ks_X3_isLoaded : Cond.selects RX3 yX3_isLoaded yX3_isLoaded ∈ lw_all := lw_m (List.mem_of_getElem? (i := 237) (by decide +kernel)) rfl
theorem kc_X3_isLoaded : Cond.code yX3_isLoaded cX3_isLoaded 1 (some FieldType.boolean) ∈ lw_all := lw_m (List.mem_of_getElem? (i := 238) (by decide +kernel)) rfl
theorem kmX3_47 : Cond.methodLink RX3 47 Lib.Math.max.name ∈ lw_all := lw_m (List.mem_of_getElem? (i := 239) (by decide +kernel)) rfl
theorem kt_Math_max : Cond.static Lib.Math.max.name ∈ lw_all := lw_m (List.mem_of_getElem? (i := 240) (by decide +kernel)) rfl
theorem kc_Math_max : Cond.code Lib.Math.max.name Lib.Math.max.code 2 (some FieldType.int) ∈ lw_all := lw_m (List.mem_of_getElem? (i := 241) (by decide +kernel)) rfl
theorem kmX4_197 : Cond.methodLink RX4 197 yX4_lineUp ∈ lw_all := lw_m (List.mem_of_getElem? (i := 242) (by decide +kernel)) rfl
theorem ki_X4_lineUp : Cond.instanceMethod yX4_lineUp ∈ lw_all := lw_m (List.mem_of_getElem? (i := 244) (by decide +kernel)) rfl
theorem kc_X4_lineUp : Cond.code yX4_lineUp cX4_lineUp 3 (some FieldType.int) ∈ lw_all := lw_m (List.mem_of_getElem? (i := 245) (by decide +kernel)) rfl
theorem kmX4_119 : Cond.methodLink RX4 119 yX3_isLoaded ∈ lw_all := lw_m (List.mem_of_getElem? (i := 246) (by decide +kernel)) rfl
theorem kmX4_210 : Cond.methodLink RX4 210 yX3_isDry ∈ lw_all := lw_m (List.mem_of_getElem? (i := 247) (by decide +kernel)) rfl
theorem ki_X3_isDry : Cond.instanceMethod yX3_isDry ∈ lw_all := lw_m (List.mem_of_getElem? (i := 248) (by decide +kernel)) rfl
theorem ks_X3_isDry : Cond.selects RX3 yX3_isDry yX3_isDry ∈ lw_all := lw_m (List.mem_of_getElem? (i := 249) (by decide +kernel)) rfl
theorem kc_X3_isDry : Cond.code yX3_isDry cX3_isDry 1 (some FieldType.boolean) ∈ lw_all := lw_m (List.mem_of_getElem? (i := 250) (by decide +kernel)) rfl
theorem kmX4_213 : Cond.methodLink RX4 213 yX4_standInLine ∈ lw_all := lw_m (List.mem_of_getElem? (i := 251) (by decide +kernel)) rfl
theorem ki_X4_standInLine : Cond.instanceMethod yX4_standInLine ∈ lw_all := lw_m (List.mem_of_getElem? (i := 253) (by decide +kernel)) rfl
theorem kc_X4_standInLine : Cond.code yX4_standInLine cX4_standInLine 4 (none : Option FieldType) ∈ lw_all := lw_m (List.mem_of_getElem? (i := 254) (by decide +kernel)) rfl
theorem kmX4_200 : Cond.methodLink RX4 200 yX4_loadLine ∈ lw_all := lw_m (List.mem_of_getElem? (i := 255) (by decide +kernel)) rfl
theorem ki_X4_loadLine : Cond.instanceMethod yX4_loadLine ∈ lw_all := lw_m (List.mem_of_getElem? (i := 257) (by decide +kernel)) rfl
theorem kc_X4_loadLine : Cond.code yX4_loadLine cX4_loadLine 6 (some FieldType.int) ∈ lw_all := lw_m (List.mem_of_getElem? (i := 258) (by decide +kernel)) rfl
theorem kmX4_217 : Cond.methodLink RX4 217 yX4_tonsAt ∈ lw_all := lw_m (List.mem_of_getElem? (i := 259) (by decide +kernel)) rfl
theorem ki_X4_tonsAt : Cond.instanceMethod yX4_tonsAt ∈ lw_all := lw_m (List.mem_of_getElem? (i := 261) (by decide +kernel)) rfl
theorem kc_X4_tonsAt : Cond.code yX4_tonsAt cX4_tonsAt 2 (some FieldType.int) ∈ lw_all := lw_m (List.mem_of_getElem? (i := 262) (by decide +kernel)) rfl
theorem kmX4_228 : Cond.methodLink RX4 228 yX4_chutesShut ∈ lw_all := lw_m (List.mem_of_getElem? (i := 263) (by decide +kernel)) rfl
theorem ki_X4_chutesShut : Cond.instanceMethod yX4_chutesShut ∈ lw_all := lw_m (List.mem_of_getElem? (i := 265) (by decide +kernel)) rfl
theorem kc_X4_chutesShut : Cond.code yX4_chutesShut cX4_chutesShut 2 (some FieldType.boolean) ∈ lw_all := lw_m (List.mem_of_getElem? (i := 266) (by decide +kernel)) rfl
theorem kmX4_231 : Cond.methodLink RX4 231 yX4_lightersShut ∈ lw_all := lw_m (List.mem_of_getElem? (i := 267) (by decide +kernel)) rfl
theorem ki_X4_lightersShut : Cond.instanceMethod yX4_lightersShut ∈ lw_all := lw_m (List.mem_of_getElem? (i := 269) (by decide +kernel)) rfl
theorem kc_X4_lightersShut : Cond.code yX4_lightersShut cX4_lightersShut 2 (some FieldType.boolean) ∈ lw_all := lw_m (List.mem_of_getElem? (i := 270) (by decide +kernel)) rfl
theorem kmX4_123 : Cond.methodLink RX4 123 Lib.Math.min.name ∈ lw_all := lw_m (List.mem_of_getElem? (i := 271) (by decide +kernel)) rfl
theorem kt_Math_min : Cond.static Lib.Math.min.name ∈ lw_all := lw_m (List.mem_of_getElem? (i := 272) (by decide +kernel)) rfl
theorem kc_Math_min : Cond.code Lib.Math.min.name Lib.Math.min.code 2 (some FieldType.int) ∈ lw_all := lw_m (List.mem_of_getElem? (i := 273) (by decide +kernel)) rfl
theorem kmX4_220 : Cond.methodLink RX4 220 yX1_dig ∈ lw_all := lw_m (List.mem_of_getElem? (i := 274) (by decide +kernel)) rfl
theorem ki_X1_dig : Cond.instanceMethod yX1_dig ∈ lw_all := lw_m (List.mem_of_getElem? (i := 275) (by decide +kernel)) rfl
theorem ks_X1_dig : Cond.selects RX1 yX1_dig yX1_dig ∈ lw_all := lw_m (List.mem_of_getElem? (i := 276) (by decide +kernel)) rfl
theorem kc_X1_dig : Cond.code yX1_dig cX1_dig 6 (some FieldType.int) ∈ lw_all := lw_m (List.mem_of_getElem? (i := 277) (by decide +kernel)) rfl
theorem kmX1_22 : Cond.methodLink RX1 22 Lib.Math.min.name ∈ lw_all := lw_m (List.mem_of_getElem? (i := 278) (by decide +kernel)) rfl
theorem kmX4_224 : Cond.methodLink RX4 224 yX3_take ∈ lw_all := lw_m (List.mem_of_getElem? (i := 279) (by decide +kernel)) rfl
theorem ki_X3_take : Cond.instanceMethod yX3_take ∈ lw_all := lw_m (List.mem_of_getElem? (i := 280) (by decide +kernel)) rfl
theorem ks_X3_take : Cond.selects RX3 yX3_take yX3_take ∈ lw_all := lw_m (List.mem_of_getElem? (i := 281) (by decide +kernel)) rfl
theorem kc_X3_take : Cond.code yX3_take cX3_take 3 (none : Option FieldType) ∈ lw_all := lw_m (List.mem_of_getElem? (i := 282) (by decide +kernel)) rfl
theorem kmX4_203 : Cond.methodLink RX4 203 yX4_tonsWanted ∈ lw_all := lw_m (List.mem_of_getElem? (i := 283) (by decide +kernel)) rfl
theorem ki_X4_tonsWanted : Cond.instanceMethod yX4_tonsWanted ∈ lw_all := lw_m (List.mem_of_getElem? (i := 285) (by decide +kernel)) rfl
theorem kc_X4_tonsWanted : Cond.code yX4_tonsWanted cX4_tonsWanted 3 (some FieldType.int) ∈ lw_all := lw_m (List.mem_of_getElem? (i := 286) (by decide +kernel)) rfl
theorem kmX4_206 : Cond.methodLink RX4 206 yX2_tell ∈ lw_all := lw_m (List.mem_of_getElem? (i := 287) (by decide +kernel)) rfl
theorem ki_X2_tell : Cond.instanceMethod yX2_tell ∈ lw_all := lw_m (List.mem_of_getElem? (i := 288) (by decide +kernel)) rfl
theorem ks_X2_tell : Cond.selects RX2 yX2_tell yX2_tell ∈ lw_all := lw_m (List.mem_of_getElem? (i := 289) (by decide +kernel)) rfl
theorem kc_X2_tell : Cond.code yX2_tell cX2_tell 5 (none : Option FieldType) ∈ lw_all := lw_m (List.mem_of_getElem? (i := 290) (by decide +kernel)) rfl
theorem kmL_40 : Cond.methodLink RL 40 yX4_about ∈ lw_all := lw_m (List.mem_of_getElem? (i := 291) (by decide +kernel)) rfl
theorem ki_X4_about : Cond.instanceMethod yX4_about ∈ lw_all := lw_m (List.mem_of_getElem? (i := 292) (by decide +kernel)) rfl
theorem ks_X4_about : Cond.selects RX4 yX4_about yX4_about ∈ lw_all := lw_m (List.mem_of_getElem? (i := 293) (by decide +kernel)) rfl
theorem kc_X4_about : Cond.code yX4_about cX4_about 4 (some FieldType.int) ∈ lw_all := lw_m (List.mem_of_getElem? (i := 294) (by decide +kernel)) rfl
theorem kmX4_112 : Cond.methodLink RX4 112 yX1_worthOf ∈ lw_all := lw_m (List.mem_of_getElem? (i := 295) (by decide +kernel)) rfl
theorem ki_X1_worthOf : Cond.instanceMethod yX1_worthOf ∈ lw_all := lw_m (List.mem_of_getElem? (i := 296) (by decide +kernel)) rfl
theorem ks_X1_worthOf : Cond.selects RX1 yX1_worthOf yX1_worthOf ∈ lw_all := lw_m (List.mem_of_getElem? (i := 297) (by decide +kernel)) rfl
theorem kc_X1_worthOf : Cond.code yX1_worthOf cX1_worthOf 4 (some FieldType.int) ∈ lw_all := lw_m (List.mem_of_getElem? (i := 298) (by decide +kernel)) rfl
theorem kmL_44 : Cond.methodLink RL 44 yX4_cargo ∈ lw_all := lw_m (List.mem_of_getElem? (i := 299) (by decide +kernel)) rfl
theorem ki_X4_cargo : Cond.instanceMethod yX4_cargo ∈ lw_all := lw_m (List.mem_of_getElem? (i := 300) (by decide +kernel)) rfl
theorem ks_X4_cargo : Cond.selects RX4 yX4_cargo yX4_cargo ∈ lw_all := lw_m (List.mem_of_getElem? (i := 301) (by decide +kernel)) rfl
theorem kc_X4_cargo : Cond.code yX4_cargo cX4_cargo 4 (some FieldType.int) ∈ lw_all := lw_m (List.mem_of_getElem? (i := 302) (by decide +kernel)) rfl
theorem kmL_48 : Cond.methodLink RL 48 yX4_loaded ∈ lw_all := lw_m (List.mem_of_getElem? (i := 303) (by decide +kernel)) rfl
theorem ki_X4_loaded : Cond.instanceMethod yX4_loaded ∈ lw_all := lw_m (List.mem_of_getElem? (i := 304) (by decide +kernel)) rfl
theorem ks_X4_loaded : Cond.selects RX4 yX4_loaded yX4_loaded ∈ lw_all := lw_m (List.mem_of_getElem? (i := 305) (by decide +kernel)) rfl
theorem kc_X4_loaded : Cond.code yX4_loaded cX4_loaded 4 (some FieldType.int) ∈ lw_all := lw_m (List.mem_of_getElem? (i := 306) (by decide +kernel)) rfl
theorem kmL_52 : Cond.methodLink RL 52 yX4_boat ∈ lw_all := lw_m (List.mem_of_getElem? (i := 307) (by decide +kernel)) rfl
theorem ki_X4_boat : Cond.instanceMethod yX4_boat ∈ lw_all := lw_m (List.mem_of_getElem? (i := 308) (by decide +kernel)) rfl
theorem ks_X4_boat : Cond.selects RX4 yX4_boat yX4_boat ∈ lw_all := lw_m (List.mem_of_getElem? (i := 309) (by decide +kernel)) rfl
theorem kc_X4_boat : Cond.code yX4_boat cX4_boat 4 (some FieldType.int) ∈ lw_all := lw_m (List.mem_of_getElem? (i := 310) (by decide +kernel)) rfl
theorem kmL_56 : Cond.methodLink RL 56 yX4_sample ∈ lw_all := lw_m (List.mem_of_getElem? (i := 311) (by decide +kernel)) rfl
theorem ki_X4_sample : Cond.instanceMethod yX4_sample ∈ lw_all := lw_m (List.mem_of_getElem? (i := 312) (by decide +kernel)) rfl
theorem ks_X4_sample : Cond.selects RX4 yX4_sample yX4_sample ∈ lw_all := lw_m (List.mem_of_getElem? (i := 313) (by decide +kernel)) rfl
theorem kc_X4_sample : Cond.code yX4_sample cX4_sample 4 (some FieldType.int) ∈ lw_all := lw_m (List.mem_of_getElem? (i := 314) (by decide +kernel)) rfl
theorem kmX4_128 : Cond.methodLink RX4 128 yX1_sampleOf ∈ lw_all := lw_m (List.mem_of_getElem? (i := 315) (by decide +kernel)) rfl
theorem ki_X1_sampleOf : Cond.instanceMethod yX1_sampleOf ∈ lw_all := lw_m (List.mem_of_getElem? (i := 316) (by decide +kernel)) rfl
theorem ks_X1_sampleOf : Cond.selects RX1 yX1_sampleOf yX1_sampleOf ∈ lw_all := lw_m (List.mem_of_getElem? (i := 317) (by decide +kernel)) rfl
theorem kc_X1_sampleOf : Cond.code yX1_sampleOf cX1_sampleOf 9 (some FieldType.int) ∈ lw_all := lw_m (List.mem_of_getElem? (i := 318) (by decide +kernel)) rfl
theorem kmL_62 : Cond.methodLink RL 62 yX4_type ∈ lw_all := lw_m (List.mem_of_getElem? (i := 319) (by decide +kernel)) rfl
theorem ki_X4_type : Cond.instanceMethod yX4_type ∈ lw_all := lw_m (List.mem_of_getElem? (i := 320) (by decide +kernel)) rfl
theorem ks_X4_type : Cond.selects RX4 yX4_type yX4_type ∈ lw_all := lw_m (List.mem_of_getElem? (i := 321) (by decide +kernel)) rfl
theorem kc_X4_type : Cond.code yX4_type cX4_type 4 (some FieldType.int) ∈ lw_all := lw_m (List.mem_of_getElem? (i := 322) (by decide +kernel)) rfl
theorem kmX4_135 : Cond.methodLink RX4 135 yX0_append ∈ lw_all := lw_m (List.mem_of_getElem? (i := 323) (by decide +kernel)) rfl
theorem ki_X0_append : Cond.instanceMethod yX0_append ∈ lw_all := lw_m (List.mem_of_getElem? (i := 324) (by decide +kernel)) rfl
theorem ks_X0_append : Cond.selects RX0 yX0_append yX0_append ∈ lw_all := lw_m (List.mem_of_getElem? (i := 325) (by decide +kernel)) rfl
theorem kc_X0_append : Cond.code yX0_append cX0_append 5 (none : Option FieldType) ∈ lw_all := lw_m (List.mem_of_getElem? (i := 326) (by decide +kernel)) rfl
theorem kmL_67 : Cond.methodLink RL 67 yX4_clear ∈ lw_all := lw_m (List.mem_of_getElem? (i := 327) (by decide +kernel)) rfl
theorem ki_X4_clear : Cond.instanceMethod yX4_clear ∈ lw_all := lw_m (List.mem_of_getElem? (i := 328) (by decide +kernel)) rfl
theorem ks_X4_clear : Cond.selects RX4 yX4_clear yX4_clear ∈ lw_all := lw_m (List.mem_of_getElem? (i := 329) (by decide +kernel)) rfl
theorem kc_X4_clear : Cond.code yX4_clear cX4_clear 2 (some FieldType.int) ∈ lw_all := lw_m (List.mem_of_getElem? (i := 330) (by decide +kernel)) rfl
theorem kmL_72 : Cond.methodLink RL 72 yX4_charter ∈ lw_all := lw_m (List.mem_of_getElem? (i := 331) (by decide +kernel)) rfl
theorem ki_X4_charter : Cond.instanceMethod yX4_charter ∈ lw_all := lw_m (List.mem_of_getElem? (i := 332) (by decide +kernel)) rfl
theorem ks_X4_charter : Cond.selects RX4 yX4_charter yX4_charter ∈ lw_all := lw_m (List.mem_of_getElem? (i := 333) (by decide +kernel)) rfl
theorem kc_X4_charter : Cond.code yX4_charter cX4_charter 4 (some FieldType.int) ∈ lw_all := lw_m (List.mem_of_getElem? (i := 334) (by decide +kernel)) rfl
theorem kmX4_139 : Cond.methodLink RX4 139 yX0_read ∈ lw_all := lw_m (List.mem_of_getElem? (i := 335) (by decide +kernel)) rfl
theorem ki_X0_read : Cond.instanceMethod yX0_read ∈ lw_all := lw_m (List.mem_of_getElem? (i := 336) (by decide +kernel)) rfl
theorem ks_X0_read : Cond.selects RX0 yX0_read yX0_read ∈ lw_all := lw_m (List.mem_of_getElem? (i := 337) (by decide +kernel)) rfl
theorem kc_X0_read : Cond.code yX0_read cX0_read 5 (some FieldType.int) ∈ lw_all := lw_m (List.mem_of_getElem? (i := 338) (by decide +kernel)) rfl
theorem kmX0_22 : Cond.methodLink RX0 22 yX0_takesNumber ∈ lw_all := lw_m (List.mem_of_getElem? (i := 339) (by decide +kernel)) rfl
theorem kt_X0_takesNumber : Cond.static yX0_takesNumber ∈ lw_all := lw_m (List.mem_of_getElem? (i := 340) (by decide +kernel)) rfl
theorem kc_X0_takesNumber : Cond.code yX0_takesNumber cX0_takesNumber 1 (some FieldType.boolean) ∈ lw_all := lw_m (List.mem_of_getElem? (i := 341) (by decide +kernel)) rfl
theorem kmX0_26 : Cond.methodLink RX0 26 yX0_addDigit ∈ lw_all := lw_m (List.mem_of_getElem? (i := 342) (by decide +kernel)) rfl
theorem ki_X0_addDigit : Cond.instanceMethod yX0_addDigit ∈ lw_all := lw_m (List.mem_of_getElem? (i := 344) (by decide +kernel)) rfl
theorem kc_X0_addDigit : Cond.code yX0_addDigit cX0_addDigit 3 (some FieldType.boolean) ∈ lw_all := lw_m (List.mem_of_getElem? (i := 345) (by decide +kernel)) rfl
theorem kmX0_30 : Cond.methodLink RX0 30 yX0_termOf ∈ lw_all := lw_m (List.mem_of_getElem? (i := 346) (by decide +kernel)) rfl
theorem kt_X0_termOf : Cond.static yX0_termOf ∈ lw_all := lw_m (List.mem_of_getElem? (i := 347) (by decide +kernel)) rfl
theorem kc_X0_termOf : Cond.code yX0_termOf cX0_termOf 1 (some FieldType.int) ∈ lw_all := lw_m (List.mem_of_getElem? (i := 348) (by decide +kernel)) rfl
theorem kmX4_147 : Cond.methodLink RX4 147 arraycopyName ∈ lw_all := lw_m (List.mem_of_getElem? (i := 349) (by decide +kernel)) rfl
theorem kt_Sys_arraycopy : Cond.static arraycopyName ∈ lw_all := lw_m (List.mem_of_getElem? (i := 350) (by decide +kernel)) rfl
theorem kv_Sys_arraycopy : Cond.native arraycopyName ∈ lw_all := lw_m (List.mem_of_getElem? (i := 351) (by decide +kernel)) rfl
theorem kmL_76 : Cond.methodLink RL 76 yX4_term ∈ lw_all := lw_m (List.mem_of_getElem? (i := 352) (by decide +kernel)) rfl
theorem ki_X4_term : Cond.instanceMethod yX4_term ∈ lw_all := lw_m (List.mem_of_getElem? (i := 353) (by decide +kernel)) rfl
theorem ks_X4_term : Cond.selects RX4 yX4_term yX4_term ∈ lw_all := lw_m (List.mem_of_getElem? (i := 354) (by decide +kernel)) rfl
theorem kc_X4_term : Cond.code yX4_term cX4_term 4 (some FieldType.int) ∈ lw_all := lw_m (List.mem_of_getElem? (i := 355) (by decide +kernel)) rfl
theorem kmL_80 : Cond.methodLink RL 80 yX4_owed ∈ lw_all := lw_m (List.mem_of_getElem? (i := 356) (by decide +kernel)) rfl
theorem ki_X4_owed : Cond.instanceMethod yX4_owed ∈ lw_all := lw_m (List.mem_of_getElem? (i := 357) (by decide +kernel)) rfl
theorem ks_X4_owed : Cond.selects RX4 yX4_owed yX4_owed ∈ lw_all := lw_m (List.mem_of_getElem? (i := 358) (by decide +kernel)) rfl
theorem kc_X4_owed : Cond.code yX4_owed cX4_owed 4 (some FieldType.int) ∈ lw_all := lw_m (List.mem_of_getElem? (i := 359) (by decide +kernel)) rfl
theorem kkX4_153 : Cond.constant RX4 153 (-1000000) ∈ lw_all := lw_m (List.mem_of_getElem? (i := 360) (by decide +kernel)) rfl
theorem kmX4_154 : Cond.methodLink RX4 154 yX4_usedBy ∈ lw_all := lw_m (List.mem_of_getElem? (i := 361) (by decide +kernel)) rfl
theorem ki_X4_usedBy : Cond.instanceMethod yX4_usedBy ∈ lw_all := lw_m (List.mem_of_getElem? (i := 363) (by decide +kernel)) rfl
theorem kc_X4_usedBy : Cond.code yX4_usedBy cX4_usedBy 4 (some FieldType.int) ∈ lw_all := lw_m (List.mem_of_getElem? (i := 364) (by decide +kernel)) rfl
theorem kmX4_161 : Cond.methodLink RX4 161 yX4_lastDayOf ∈ lw_all := lw_m (List.mem_of_getElem? (i := 365) (by decide +kernel)) rfl
theorem ki_X4_lastDayOf : Cond.instanceMethod yX4_lastDayOf ∈ lw_all := lw_m (List.mem_of_getElem? (i := 367) (by decide +kernel)) rfl
theorem kc_X4_lastDayOf : Cond.code yX4_lastDayOf cX4_lastDayOf 2 (some FieldType.int) ∈ lw_all := lw_m (List.mem_of_getElem? (i := 368) (by decide +kernel)) rfl
theorem kmX4_164 : Cond.methodLink RX4 164 yX4_counts ∈ lw_all := lw_m (List.mem_of_getElem? (i := 369) (by decide +kernel)) rfl
theorem ki_X4_counts : Cond.instanceMethod yX4_counts ∈ lw_all := lw_m (List.mem_of_getElem? (i := 371) (by decide +kernel)) rfl
theorem kc_X4_counts : Cond.code yX4_counts cX4_counts 3 (some FieldType.boolean) ∈ lw_all := lw_m (List.mem_of_getElem? (i := 372) (by decide +kernel)) rfl
theorem kmX4_234 : Cond.methodLink RX4 234 yX3_agreed ∈ lw_all := lw_m (List.mem_of_getElem? (i := 373) (by decide +kernel)) rfl
theorem ki_X3_agreed : Cond.instanceMethod yX3_agreed ∈ lw_all := lw_m (List.mem_of_getElem? (i := 374) (by decide +kernel)) rfl
theorem ks_X3_agreed : Cond.selects RX3 yX3_agreed yX3_agreed ∈ lw_all := lw_m (List.mem_of_getElem? (i := 375) (by decide +kernel)) rfl
theorem kc_X3_agreed : Cond.code yX3_agreed cX3_agreed 2 (some FieldType.boolean) ∈ lw_all := lw_m (List.mem_of_getElem? (i := 376) (by decide +kernel)) rfl
theorem kmX4_158 : Cond.methodLink RX4 158 yX4_owedBy ∈ lw_all := lw_m (List.mem_of_getElem? (i := 377) (by decide +kernel)) rfl
theorem ki_X4_owedBy : Cond.instanceMethod yX4_owedBy ∈ lw_all := lw_m (List.mem_of_getElem? (i := 379) (by decide +kernel)) rfl
theorem kc_X4_owedBy : Cond.code yX4_owedBy cX4_owedBy 3 (some FieldType.int) ∈ lw_all := lw_m (List.mem_of_getElem? (i := 380) (by decide +kernel)) rfl
theorem kmL_84 : Cond.methodLink RL 84 yX4_shared ∈ lw_all := lw_m (List.mem_of_getElem? (i := 381) (by decide +kernel)) rfl
theorem ki_X4_shared : Cond.instanceMethod yX4_shared ∈ lw_all := lw_m (List.mem_of_getElem? (i := 382) (by decide +kernel)) rfl
theorem ks_X4_shared : Cond.selects RX4 yX4_shared yX4_shared ∈ lw_all := lw_m (List.mem_of_getElem? (i := 383) (by decide +kernel)) rfl
theorem kc_X4_shared : Cond.code yX4_shared cX4_shared 7 (some FieldType.int) ∈ lw_all := lw_m (List.mem_of_getElem? (i := 384) (by decide +kernel)) rfl
theorem kmX4_168 : Cond.methodLink RX4 168 yX4_shareOf ∈ lw_all := lw_m (List.mem_of_getElem? (i := 385) (by decide +kernel)) rfl
theorem ki_X4_shareOf : Cond.instanceMethod yX4_shareOf ∈ lw_all := lw_m (List.mem_of_getElem? (i := 387) (by decide +kernel)) rfl
theorem kc_X4_shareOf : Cond.code yX4_shareOf cX4_shareOf 3 (some FieldType.int) ∈ lw_all := lw_m (List.mem_of_getElem? (i := 388) (by decide +kernel)) rfl
theorem kmL_88 : Cond.methodLink RL 88 yX4_delay ∈ lw_all := lw_m (List.mem_of_getElem? (i := 389) (by decide +kernel)) rfl
theorem ki_X4_delay : Cond.instanceMethod yX4_delay ∈ lw_all := lw_m (List.mem_of_getElem? (i := 390) (by decide +kernel)) rfl
theorem ks_X4_delay : Cond.selects RX4 yX4_delay yX4_delay ∈ lw_all := lw_m (List.mem_of_getElem? (i := 391) (by decide +kernel)) rfl
theorem kc_X4_delay : Cond.code yX4_delay cX4_delay 3 (some FieldType.int) ∈ lw_all := lw_m (List.mem_of_getElem? (i := 392) (by decide +kernel)) rfl
theorem kmL_92 : Cond.methodLink RL 92 yX4_letter ∈ lw_all := lw_m (List.mem_of_getElem? (i := 393) (by decide +kernel)) rfl
theorem ki_X4_letter : Cond.instanceMethod yX4_letter ∈ lw_all := lw_m (List.mem_of_getElem? (i := 394) (by decide +kernel)) rfl
theorem ks_X4_letter : Cond.selects RX4 yX4_letter yX4_letter ∈ lw_all := lw_m (List.mem_of_getElem? (i := 395) (by decide +kernel)) rfl
theorem kc_X4_letter : Cond.code yX4_letter cX4_letter 3 (some FieldType.int) ∈ lw_all := lw_m (List.mem_of_getElem? (i := 396) (by decide +kernel)) rfl
theorem kmL_96 : Cond.methodLink RL 96 yX4_foretold ∈ lw_all := lw_m (List.mem_of_getElem? (i := 397) (by decide +kernel)) rfl
theorem ki_X4_foretold : Cond.instanceMethod yX4_foretold ∈ lw_all := lw_m (List.mem_of_getElem? (i := 398) (by decide +kernel)) rfl
theorem ks_X4_foretold : Cond.selects RX4 yX4_foretold yX4_foretold ∈ lw_all := lw_m (List.mem_of_getElem? (i := 399) (by decide +kernel)) rfl
theorem kc_X4_foretold : Cond.code yX4_foretold cX4_foretold 1 (some FieldType.int) ∈ lw_all := lw_m (List.mem_of_getElem? (i := 400) (by decide +kernel)) rfl
theorem kmX4_181 : Cond.methodLink RX4 181 yX2_foretell ∈ lw_all := lw_m (List.mem_of_getElem? (i := 401) (by decide +kernel)) rfl
theorem ki_X2_foretell : Cond.instanceMethod yX2_foretell ∈ lw_all := lw_m (List.mem_of_getElem? (i := 402) (by decide +kernel)) rfl
theorem ks_X2_foretell : Cond.selects RX2 yX2_foretell yX2_foretell ∈ lw_all := lw_m (List.mem_of_getElem? (i := 403) (by decide +kernel)) rfl
theorem kc_X2_foretell : Cond.code yX2_foretell cX2_foretell 5 (some FieldType.int) ∈ lw_all := lw_m (List.mem_of_getElem? (i := 404) (by decide +kernel)) rfl
theorem kmX2_21 : Cond.methodLink RX2 21 yX2_latestCome ∈ lw_all := lw_m (List.mem_of_getElem? (i := 405) (by decide +kernel)) rfl
theorem ki_X2_latestCome : Cond.instanceMethod yX2_latestCome ∈ lw_all := lw_m (List.mem_of_getElem? (i := 407) (by decide +kernel)) rfl
theorem kc_X2_latestCome : Cond.code yX2_latestCome cX2_latestCome 3 (some FieldType.int) ∈ lw_all := lw_m (List.mem_of_getElem? (i := 408) (by decide +kernel)) rfl
theorem kmX2_25 : Cond.methodLink RX2 25 Lib.Math.max.name ∈ lw_all := lw_m (List.mem_of_getElem? (i := 409) (by decide +kernel)) rfl
theorem kmX2_31 : Cond.methodLink RX2 31 yX2_dugFrom ∈ lw_all := lw_m (List.mem_of_getElem? (i := 410) (by decide +kernel)) rfl
theorem ki_X2_dugFrom : Cond.instanceMethod yX2_dugFrom ∈ lw_all := lw_m (List.mem_of_getElem? (i := 411) (by decide +kernel)) rfl
theorem ks_X2_dugFrom : Cond.selects RX2 yX2_dugFrom yX2_dugFrom ∈ lw_all := lw_m (List.mem_of_getElem? (i := 412) (by decide +kernel)) rfl
theorem kc_X2_dugFrom : Cond.code yX2_dugFrom cX2_dugFrom 5 (some FieldType.int) ∈ lw_all := lw_m (List.mem_of_getElem? (i := 413) (by decide +kernel)) rfl
theorem kmL_100 : Cond.methodLink RL 100 yX4_count ∈ lw_all := lw_m (List.mem_of_getElem? (i := 414) (by decide +kernel)) rfl
theorem ki_X4_count : Cond.instanceMethod yX4_count ∈ lw_all := lw_m (List.mem_of_getElem? (i := 415) (by decide +kernel)) rfl
theorem ks_X4_count : Cond.selects RX4 yX4_count yX4_count ∈ lw_all := lw_m (List.mem_of_getElem? (i := 416) (by decide +kernel)) rfl
theorem kc_X4_count : Cond.code yX4_count cX4_count 2 (some FieldType.int) ∈ lw_all := lw_m (List.mem_of_getElem? (i := 417) (by decide +kernel)) rfl
theorem kmX4_184 : Cond.methodLink RX4 184 yX4_loadedShips ∈ lw_all := lw_m (List.mem_of_getElem? (i := 418) (by decide +kernel)) rfl
theorem ki_X4_loadedShips : Cond.instanceMethod yX4_loadedShips ∈ lw_all := lw_m (List.mem_of_getElem? (i := 420) (by decide +kernel)) rfl
theorem kc_X4_loadedShips : Cond.code yX4_loadedShips cX4_loadedShips 3 (some FieldType.int) ∈ lw_all := lw_m (List.mem_of_getElem? (i := 421) (by decide +kernel)) rfl
theorem kmX4_187 : Cond.methodLink RX4 187 yX2_dugFrom ∈ lw_all := lw_m (List.mem_of_getElem? (i := 422) (by decide +kernel)) rfl
theorem kmX4_190 : Cond.methodLink RX4 190 yX4_dryShips ∈ lw_all := lw_m (List.mem_of_getElem? (i := 423) (by decide +kernel)) rfl
theorem ki_X4_dryShips : Cond.instanceMethod yX4_dryShips ∈ lw_all := lw_m (List.mem_of_getElem? (i := 425) (by decide +kernel)) rfl
theorem kc_X4_dryShips : Cond.code yX4_dryShips cX4_dryShips 3 (some FieldType.int) ∈ lw_all := lw_m (List.mem_of_getElem? (i := 426) (by decide +kernel)) rfl
theorem kmL_104 : Cond.methodLink RL 104 yX4_trace ∈ lw_all := lw_m (List.mem_of_getElem? (i := 427) (by decide +kernel)) rfl
theorem ki_X4_trace : Cond.instanceMethod yX4_trace ∈ lw_all := lw_m (List.mem_of_getElem? (i := 428) (by decide +kernel)) rfl
theorem ks_X4_trace : Cond.selects RX4 yX4_trace yX4_trace ∈ lw_all := lw_m (List.mem_of_getElem? (i := 429) (by decide +kernel)) rfl
theorem kc_X4_trace : Cond.code yX4_trace cX4_trace 1 (some FieldType.long) ∈ lw_all := lw_m (List.mem_of_getElem? (i := 430) (by decide +kernel)) rfl
theorem klL_10 : Cond.classLink RL 10 RX5 ∈ lw_all := lw_m (List.mem_of_getElem? (i := 431) (by decide +kernel)) rfl
theorem kq_X5 : Cond.instantiable RX5 25 ∈ lw_all := lw_m (List.mem_of_getElem? (i := 432) (by decide +kernel)) rfl
theorem kmL_12 : Cond.methodLink RL 12 yX5_init ∈ lw_all := lw_m (List.mem_of_getElem? (i := 433) (by decide +kernel)) rfl
theorem ki_X5_init : Cond.instanceMethod yX5_init ∈ lw_all := lw_m (List.mem_of_getElem? (i := 434) (by decide +kernel)) rfl
theorem kc_X5_init : Cond.code yX5_init cX5_init 1 (none : Option FieldType) ∈ lw_all := lw_m (List.mem_of_getElem? (i := 435) (by decide +kernel)) rfl
theorem kmX5_1 : Cond.methodLink RX5 1 objectInit ∈ lw_all := lw_m (List.mem_of_getElem? (i := 436) (by decide +kernel)) rfl
theorem kfX5_66 : Cond.fieldLink RX5 66 "RockRoadModel" "thrown" "I" ∈ lw_all := lw_m (List.mem_of_getElem? (i := 437) (by decide +kernel)) rfl
theorem kfX5_86 : Cond.fieldLink RX5 86 "RockRoadModel" "trace" "J" ∈ lw_all := lw_m (List.mem_of_getElem? (i := 438) (by decide +kernel)) rfl
theorem kfX5_76 : Cond.fieldLink RX5 76 "RockRoadModel" "today" "I" ∈ lw_all := lw_m (List.mem_of_getElem? (i := 439) (by decide +kernel)) rfl
theorem kfX5_7 : Cond.fieldLink RX5 7 "RockRoadModel" "swell" "[I" ∈ lw_all := lw_m (List.mem_of_getElem? (i := 440) (by decide +kernel)) rfl
theorem kfX5_73 : Cond.fieldLink RX5 73 "RockRoadModel" "layers" "I" ∈ lw_all := lw_m (List.mem_of_getElem? (i := 441) (by decide +kernel)) rfl
theorem kfX5_13 : Cond.fieldLink RX5 13 "RockRoadModel" "tons" "[I" ∈ lw_all := lw_m (List.mem_of_getElem? (i := 442) (by decide +kernel)) rfl
theorem kfX5_16 : Cond.fieldLink RX5 16 "RockRoadModel" "worth" "[I" ∈ lw_all := lw_m (List.mem_of_getElem? (i := 443) (by decide +kernel)) rfl
theorem kfX5_79 : Cond.fieldLink RX5 79 "RockRoadModel" "ships" "I" ∈ lw_all := lw_m (List.mem_of_getElem? (i := 444) (by decide +kernel)) rfl
theorem kfX5_19 : Cond.fieldLink RX5 19 "RockRoadModel" "kind" "[I" ∈ lw_all := lw_m (List.mem_of_getElem? (i := 445) (by decide +kernel)) rfl
theorem kfX5_22 : Cond.fieldLink RX5 22 "RockRoadModel" "came" "[I" ∈ lw_all := lw_m (List.mem_of_getElem? (i := 446) (by decide +kernel)) rfl
theorem kfX5_25 : Cond.fieldLink RX5 25 "RockRoadModel" "wants" "[I" ∈ lw_all := lw_m (List.mem_of_getElem? (i := 447) (by decide +kernel)) rfl
theorem kfX5_28 : Cond.fieldLink RX5 28 "RockRoadModel" "water" "[I" ∈ lw_all := lw_m (List.mem_of_getElem? (i := 448) (by decide +kernel)) rfl
theorem kfX5_31 : Cond.fieldLink RX5 31 "RockRoadModel" "done" "[I" ∈ lw_all := lw_m (List.mem_of_getElem? (i := 449) (by decide +kernel)) rfl
theorem kfX5_34 : Cond.fieldLink RX5 34 "RockRoadModel" "cargo" "[I" ∈ lw_all := lw_m (List.mem_of_getElem? (i := 450) (by decide +kernel)) rfl
theorem kfX5_37 : Cond.fieldLink RX5 37 "RockRoadModel" "took" "[I" ∈ lw_all := lw_m (List.mem_of_getElem? (i := 451) (by decide +kernel)) rfl
theorem kfX5_40 : Cond.fieldLink RX5 40 "RockRoadModel" "queue" "[I" ∈ lw_all := lw_m (List.mem_of_getElem? (i := 452) (by decide +kernel)) rfl
theorem kfX5_43 : Cond.fieldLink RX5 43 "RockRoadModel" "dug" "[I" ∈ lw_all := lw_m (List.mem_of_getElem? (i := 453) (by decide +kernel)) rfl
theorem kfX5_46 : Cond.fieldLink RX5 46 "RockRoadModel" "comes" "[I" ∈ lw_all := lw_m (List.mem_of_getElem? (i := 454) (by decide +kernel)) rfl
theorem kfX5_49 : Cond.fieldLink RX5 49 "RockRoadModel" "delay" "I" ∈ lw_all := lw_m (List.mem_of_getElem? (i := 455) (by decide +kernel)) rfl
theorem kfX5_105 : Cond.fieldLink RX5 105 "RockRoadModel" "dugEver" "I" ∈ lw_all := lw_m (List.mem_of_getElem? (i := 456) (by decide +kernel)) rfl
theorem kfX5_53 : Cond.fieldLink RX5 53 "RockRoadModel" "draft" "[I" ∈ lw_all := lw_m (List.mem_of_getElem? (i := 457) (by decide +kernel)) rfl
theorem kfX5_117 : Cond.fieldLink RX5 117 "RockRoadModel" "drafted" "I" ∈ lw_all := lw_m (List.mem_of_getElem? (i := 458) (by decide +kernel)) rfl
theorem kfX5_56 : Cond.fieldLink RX5 56 "RockRoadModel" "terms" "[I" ∈ lw_all := lw_m (List.mem_of_getElem? (i := 459) (by decide +kernel)) rfl
theorem kfX5_59 : Cond.fieldLink RX5 59 "RockRoadModel" "read" "[I" ∈ lw_all := lw_m (List.mem_of_getElem? (i := 460) (by decide +kernel)) rfl
theorem kfX5_62 : Cond.fieldLink RX5 62 "RockRoadModel" "isMet" "[Z" ∈ lw_all := lw_m (List.mem_of_getElem? (i := 461) (by decide +kernel)) rfl
theorem ka_boolean : Cond.arrayClass .boolean ∈ lw_all := lw_m (List.mem_of_getElem? (i := 513) (by decide +kernel)) rfl
theorem kmL_17 : Cond.methodLink RL 17 yX5_layer ∈ lw_all := lw_m (List.mem_of_getElem? (i := 514) (by decide +kernel)) rfl
theorem ki_X5_layer : Cond.instanceMethod yX5_layer ∈ lw_all := lw_m (List.mem_of_getElem? (i := 515) (by decide +kernel)) rfl
theorem ks_X5_layer : Cond.selects RX5 yX5_layer yX5_layer ∈ lw_all := lw_m (List.mem_of_getElem? (i := 516) (by decide +kernel)) rfl
theorem kc_X5_layer : Cond.code yX5_layer cX5_layer 3 (some FieldType.int) ∈ lw_all := lw_m (List.mem_of_getElem? (i := 517) (by decide +kernel)) rfl
theorem kmX5_69 : Cond.methodLink RX5 69 yX5_in ∈ lw_all := lw_m (List.mem_of_getElem? (i := 518) (by decide +kernel)) rfl
theorem kt_X5_in : Cond.static yX5_in ∈ lw_all := lw_m (List.mem_of_getElem? (i := 519) (by decide +kernel)) rfl
theorem kc_X5_in : Cond.code yX5_in cX5_in 3 (some FieldType.boolean) ∈ lw_all := lw_m (List.mem_of_getElem? (i := 520) (by decide +kernel)) rfl
theorem kmL_22 : Cond.methodLink RL 22 yX5_left ∈ lw_all := lw_m (List.mem_of_getElem? (i := 521) (by decide +kernel)) rfl
theorem ki_X5_left : Cond.instanceMethod yX5_left ∈ lw_all := lw_m (List.mem_of_getElem? (i := 522) (by decide +kernel)) rfl
theorem ks_X5_left : Cond.selects RX5 yX5_left yX5_left ∈ lw_all := lw_m (List.mem_of_getElem? (i := 523) (by decide +kernel)) rfl
theorem kc_X5_left : Cond.code yX5_left cX5_left 2 (some FieldType.int) ∈ lw_all := lw_m (List.mem_of_getElem? (i := 524) (by decide +kernel)) rfl
theorem kmL_26 : Cond.methodLink RL 26 yX5_swell ∈ lw_all := lw_m (List.mem_of_getElem? (i := 525) (by decide +kernel)) rfl
theorem ki_X5_swell : Cond.instanceMethod yX5_swell ∈ lw_all := lw_m (List.mem_of_getElem? (i := 526) (by decide +kernel)) rfl
theorem ks_X5_swell : Cond.selects RX5 yX5_swell yX5_swell ∈ lw_all := lw_m (List.mem_of_getElem? (i := 527) (by decide +kernel)) rfl
theorem kc_X5_swell : Cond.code yX5_swell cX5_swell 4 (some FieldType.int) ∈ lw_all := lw_m (List.mem_of_getElem? (i := 528) (by decide +kernel)) rfl
theorem kmL_31 : Cond.methodLink RL 31 yX5_ship ∈ lw_all := lw_m (List.mem_of_getElem? (i := 529) (by decide +kernel)) rfl
theorem ki_X5_ship : Cond.instanceMethod yX5_ship ∈ lw_all := lw_m (List.mem_of_getElem? (i := 530) (by decide +kernel)) rfl
theorem ks_X5_ship : Cond.selects RX5 yX5_ship yX5_ship ∈ lw_all := lw_m (List.mem_of_getElem? (i := 531) (by decide +kernel)) rfl
theorem kc_X5_ship : Cond.code yX5_ship cX5_ship 4 (some FieldType.int) ∈ lw_all := lw_m (List.mem_of_getElem? (i := 532) (by decide +kernel)) rfl
theorem kmL_35 : Cond.methodLink RL 35 yX5_turn ∈ lw_all := lw_m (List.mem_of_getElem? (i := 533) (by decide +kernel)) rfl
theorem ki_X5_turn : Cond.instanceMethod yX5_turn ∈ lw_all := lw_m (List.mem_of_getElem? (i := 534) (by decide +kernel)) rfl
theorem ks_X5_turn : Cond.selects RX5 yX5_turn yX5_turn ∈ lw_all := lw_m (List.mem_of_getElem? (i := 535) (by decide +kernel)) rfl
theorem kc_X5_turn : Cond.code yX5_turn cX5_turn 2 (some FieldType.int) ∈ lw_all := lw_m (List.mem_of_getElem? (i := 536) (by decide +kernel)) rfl
theorem kmX5_82 : Cond.methodLink RX5 82 yX5_isShip ∈ lw_all := lw_m (List.mem_of_getElem? (i := 537) (by decide +kernel)) rfl
theorem ki_X5_isShip : Cond.instanceMethod yX5_isShip ∈ lw_all := lw_m (List.mem_of_getElem? (i := 539) (by decide +kernel)) rfl
theorem kc_X5_isShip : Cond.code yX5_isShip cX5_isShip 2 (some FieldType.boolean) ∈ lw_all := lw_m (List.mem_of_getElem? (i := 540) (by decide +kernel)) rfl
theorem kkX5_90 : Cond.constantLong RX5 90 (11) ∈ lw_all := lw_m (List.mem_of_getElem? (i := 541) (by decide +kernel)) rfl
theorem kkX5_92 : Cond.constantLong RX5 92 (111) ∈ lw_all := lw_m (List.mem_of_getElem? (i := 542) (by decide +kernel)) rfl
theorem kmX5_94 : Cond.methodLink RX5 94 yX5_turnOf ∈ lw_all := lw_m (List.mem_of_getElem? (i := 543) (by decide +kernel)) rfl
theorem ki_X5_turnOf : Cond.instanceMethod yX5_turnOf ∈ lw_all := lw_m (List.mem_of_getElem? (i := 545) (by decide +kernel)) rfl
theorem kc_X5_turnOf : Cond.code yX5_turnOf cX5_turnOf 3 (some FieldType.int) ∈ lw_all := lw_m (List.mem_of_getElem? (i := 546) (by decide +kernel)) rfl
theorem kmL_39 : Cond.methodLink RL 39 yX5_days ∈ lw_all := lw_m (List.mem_of_getElem? (i := 547) (by decide +kernel)) rfl
theorem ki_X5_days : Cond.instanceMethod yX5_days ∈ lw_all := lw_m (List.mem_of_getElem? (i := 548) (by decide +kernel)) rfl
theorem ks_X5_days : Cond.selects RX5 yX5_days yX5_days ∈ lw_all := lw_m (List.mem_of_getElem? (i := 549) (by decide +kernel)) rfl
theorem kc_X5_days : Cond.code yX5_days cX5_days 3 (some FieldType.int) ∈ lw_all := lw_m (List.mem_of_getElem? (i := 550) (by decide +kernel)) rfl
theorem kmX5_108 : Cond.methodLink RX5 108 yX5_goes ∈ lw_all := lw_m (List.mem_of_getElem? (i := 551) (by decide +kernel)) rfl
theorem ki_X5_goes : Cond.instanceMethod yX5_goes ∈ lw_all := lw_m (List.mem_of_getElem? (i := 553) (by decide +kernel)) rfl
theorem kc_X5_goes : Cond.code yX5_goes cX5_goes 8 (none : Option FieldType) ∈ lw_all := lw_m (List.mem_of_getElem? (i := 554) (by decide +kernel)) rfl
theorem kmX5_98 : Cond.methodLink RX5 98 yX5_isLoaded ∈ lw_all := lw_m (List.mem_of_getElem? (i := 555) (by decide +kernel)) rfl
theorem ki_X5_isLoaded : Cond.instanceMethod yX5_isLoaded ∈ lw_all := lw_m (List.mem_of_getElem? (i := 557) (by decide +kernel)) rfl
theorem kc_X5_isLoaded : Cond.code yX5_isLoaded cX5_isLoaded 2 (some FieldType.boolean) ∈ lw_all := lw_m (List.mem_of_getElem? (i := 558) (by decide +kernel)) rfl
theorem kmX5_101 : Cond.methodLink RX5 101 yX5_loads ∈ lw_all := lw_m (List.mem_of_getElem? (i := 559) (by decide +kernel)) rfl
theorem ki_X5_loads : Cond.instanceMethod yX5_loads ∈ lw_all := lw_m (List.mem_of_getElem? (i := 561) (by decide +kernel)) rfl
theorem kc_X5_loads : Cond.code yX5_loads cX5_loads 6 (some FieldType.int) ∈ lw_all := lw_m (List.mem_of_getElem? (i := 562) (by decide +kernel)) rfl
theorem kmL_43 : Cond.methodLink RL 43 yX5_about ∈ lw_all := lw_m (List.mem_of_getElem? (i := 563) (by decide +kernel)) rfl
theorem ki_X5_about : Cond.instanceMethod yX5_about ∈ lw_all := lw_m (List.mem_of_getElem? (i := 564) (by decide +kernel)) rfl
theorem ks_X5_about : Cond.selects RX5 yX5_about yX5_about ∈ lw_all := lw_m (List.mem_of_getElem? (i := 565) (by decide +kernel)) rfl
theorem kc_X5_about : Cond.code yX5_about cX5_about 3 (some FieldType.int) ∈ lw_all := lw_m (List.mem_of_getElem? (i := 566) (by decide +kernel)) rfl
theorem kmX5_111 : Cond.methodLink RX5 111 yX5_tonsOf ∈ lw_all := lw_m (List.mem_of_getElem? (i := 567) (by decide +kernel)) rfl
theorem ki_X5_tonsOf : Cond.instanceMethod yX5_tonsOf ∈ lw_all := lw_m (List.mem_of_getElem? (i := 569) (by decide +kernel)) rfl
theorem kc_X5_tonsOf : Cond.code yX5_tonsOf cX5_tonsOf 4 (some FieldType.int) ∈ lw_all := lw_m (List.mem_of_getElem? (i := 570) (by decide +kernel)) rfl
theorem kmX5_114 : Cond.methodLink RX5 114 yX5_worthOf ∈ lw_all := lw_m (List.mem_of_getElem? (i := 571) (by decide +kernel)) rfl
theorem ki_X5_worthOf : Cond.instanceMethod yX5_worthOf ∈ lw_all := lw_m (List.mem_of_getElem? (i := 573) (by decide +kernel)) rfl
theorem kc_X5_worthOf : Cond.code yX5_worthOf cX5_worthOf 4 (some FieldType.int) ∈ lw_all := lw_m (List.mem_of_getElem? (i := 574) (by decide +kernel)) rfl
theorem kmL_47 : Cond.methodLink RL 47 yX5_cargo ∈ lw_all := lw_m (List.mem_of_getElem? (i := 575) (by decide +kernel)) rfl
theorem ki_X5_cargo : Cond.instanceMethod yX5_cargo ∈ lw_all := lw_m (List.mem_of_getElem? (i := 576) (by decide +kernel)) rfl
theorem ks_X5_cargo : Cond.selects RX5 yX5_cargo yX5_cargo ∈ lw_all := lw_m (List.mem_of_getElem? (i := 577) (by decide +kernel)) rfl
theorem kc_X5_cargo : Cond.code yX5_cargo cX5_cargo 3 (some FieldType.int) ∈ lw_all := lw_m (List.mem_of_getElem? (i := 578) (by decide +kernel)) rfl
theorem kmL_51 : Cond.methodLink RL 51 yX5_loaded ∈ lw_all := lw_m (List.mem_of_getElem? (i := 579) (by decide +kernel)) rfl
theorem ki_X5_loaded : Cond.instanceMethod yX5_loaded ∈ lw_all := lw_m (List.mem_of_getElem? (i := 580) (by decide +kernel)) rfl
theorem ks_X5_loaded : Cond.selects RX5 yX5_loaded yX5_loaded ∈ lw_all := lw_m (List.mem_of_getElem? (i := 581) (by decide +kernel)) rfl
theorem kc_X5_loaded : Cond.code yX5_loaded cX5_loaded 3 (some FieldType.int) ∈ lw_all := lw_m (List.mem_of_getElem? (i := 582) (by decide +kernel)) rfl
theorem kmL_55 : Cond.methodLink RL 55 yX5_boat ∈ lw_all := lw_m (List.mem_of_getElem? (i := 583) (by decide +kernel)) rfl
theorem ki_X5_boat : Cond.instanceMethod yX5_boat ∈ lw_all := lw_m (List.mem_of_getElem? (i := 584) (by decide +kernel)) rfl
theorem ks_X5_boat : Cond.selects RX5 yX5_boat yX5_boat ∈ lw_all := lw_m (List.mem_of_getElem? (i := 585) (by decide +kernel)) rfl
theorem kc_X5_boat : Cond.code yX5_boat cX5_boat 3 (some FieldType.int) ∈ lw_all := lw_m (List.mem_of_getElem? (i := 586) (by decide +kernel)) rfl
theorem kmL_59 : Cond.methodLink RL 59 yX5_sample ∈ lw_all := lw_m (List.mem_of_getElem? (i := 587) (by decide +kernel)) rfl
theorem ki_X5_sample : Cond.instanceMethod yX5_sample ∈ lw_all := lw_m (List.mem_of_getElem? (i := 588) (by decide +kernel)) rfl
theorem ks_X5_sample : Cond.selects RX5 yX5_sample yX5_sample ∈ lw_all := lw_m (List.mem_of_getElem? (i := 589) (by decide +kernel)) rfl
theorem kc_X5_sample : Cond.code yX5_sample cX5_sample 8 (some FieldType.int) ∈ lw_all := lw_m (List.mem_of_getElem? (i := 590) (by decide +kernel)) rfl
theorem kmL_66 : Cond.methodLink RL 66 yX5_type ∈ lw_all := lw_m (List.mem_of_getElem? (i := 591) (by decide +kernel)) rfl
theorem ki_X5_type : Cond.instanceMethod yX5_type ∈ lw_all := lw_m (List.mem_of_getElem? (i := 592) (by decide +kernel)) rfl
theorem ks_X5_type : Cond.selects RX5 yX5_type yX5_type ∈ lw_all := lw_m (List.mem_of_getElem? (i := 593) (by decide +kernel)) rfl
theorem kc_X5_type : Cond.code yX5_type cX5_type 5 (some FieldType.int) ∈ lw_all := lw_m (List.mem_of_getElem? (i := 594) (by decide +kernel)) rfl
theorem kkX5_120 : Cond.constantLong RX5 120 (255) ∈ lw_all := lw_m (List.mem_of_getElem? (i := 595) (by decide +kernel)) rfl
theorem kmL_71 : Cond.methodLink RL 71 yX5_clear ∈ lw_all := lw_m (List.mem_of_getElem? (i := 596) (by decide +kernel)) rfl
theorem ki_X5_clear : Cond.instanceMethod yX5_clear ∈ lw_all := lw_m (List.mem_of_getElem? (i := 597) (by decide +kernel)) rfl
theorem ks_X5_clear : Cond.selects RX5 yX5_clear yX5_clear ∈ lw_all := lw_m (List.mem_of_getElem? (i := 598) (by decide +kernel)) rfl
theorem kc_X5_clear : Cond.code yX5_clear cX5_clear 2 (some FieldType.int) ∈ lw_all := lw_m (List.mem_of_getElem? (i := 599) (by decide +kernel)) rfl
theorem kmL_75 : Cond.methodLink RL 75 yX5_charter ∈ lw_all := lw_m (List.mem_of_getElem? (i := 600) (by decide +kernel)) rfl
theorem ki_X5_charter : Cond.instanceMethod yX5_charter ∈ lw_all := lw_m (List.mem_of_getElem? (i := 601) (by decide +kernel)) rfl
theorem ks_X5_charter : Cond.selects RX5 yX5_charter yX5_charter ∈ lw_all := lw_m (List.mem_of_getElem? (i := 602) (by decide +kernel)) rfl
theorem kc_X5_charter : Cond.code yX5_charter cX5_charter 4 (some FieldType.int) ∈ lw_all := lw_m (List.mem_of_getElem? (i := 603) (by decide +kernel)) rfl
theorem kmX5_125 : Cond.methodLink RX5 125 yX5_faultOf ∈ lw_all := lw_m (List.mem_of_getElem? (i := 604) (by decide +kernel)) rfl
theorem ki_X5_faultOf : Cond.instanceMethod yX5_faultOf ∈ lw_all := lw_m (List.mem_of_getElem? (i := 606) (by decide +kernel)) rfl
theorem kc_X5_faultOf : Cond.code yX5_faultOf cX5_faultOf 5 (some FieldType.int) ∈ lw_all := lw_m (List.mem_of_getElem? (i := 607) (by decide +kernel)) rfl
theorem kmX5_122 : Cond.methodLink RX5 122 yX5_isDigit ∈ lw_all := lw_m (List.mem_of_getElem? (i := 608) (by decide +kernel)) rfl
theorem ki_X5_isDigit : Cond.instanceMethod yX5_isDigit ∈ lw_all := lw_m (List.mem_of_getElem? (i := 610) (by decide +kernel)) rfl
theorem kc_X5_isDigit : Cond.code yX5_isDigit cX5_isDigit 2 (some FieldType.boolean) ∈ lw_all := lw_m (List.mem_of_getElem? (i := 611) (by decide +kernel)) rfl
theorem kmL_79 : Cond.methodLink RL 79 yX5_term ∈ lw_all := lw_m (List.mem_of_getElem? (i := 612) (by decide +kernel)) rfl
theorem ki_X5_term : Cond.instanceMethod yX5_term ∈ lw_all := lw_m (List.mem_of_getElem? (i := 613) (by decide +kernel)) rfl
theorem ks_X5_term : Cond.selects RX5 yX5_term yX5_term ∈ lw_all := lw_m (List.mem_of_getElem? (i := 614) (by decide +kernel)) rfl
theorem kc_X5_term : Cond.code yX5_term cX5_term 3 (some FieldType.int) ∈ lw_all := lw_m (List.mem_of_getElem? (i := 615) (by decide +kernel)) rfl
theorem kmL_83 : Cond.methodLink RL 83 yX5_owed ∈ lw_all := lw_m (List.mem_of_getElem? (i := 616) (by decide +kernel)) rfl
theorem ki_X5_owed : Cond.instanceMethod yX5_owed ∈ lw_all := lw_m (List.mem_of_getElem? (i := 617) (by decide +kernel)) rfl
theorem ks_X5_owed : Cond.selects RX5 yX5_owed yX5_owed ∈ lw_all := lw_m (List.mem_of_getElem? (i := 618) (by decide +kernel)) rfl
theorem kc_X5_owed : Cond.code yX5_owed cX5_owed 5 (some FieldType.int) ∈ lw_all := lw_m (List.mem_of_getElem? (i := 619) (by decide +kernel)) rfl
theorem kkX5_136 : Cond.constant RX5 136 (-1000000) ∈ lw_all := lw_m (List.mem_of_getElem? (i := 620) (by decide +kernel)) rfl
theorem kmX5_137 : Cond.methodLink RX5 137 yX5_usedOf ∈ lw_all := lw_m (List.mem_of_getElem? (i := 621) (by decide +kernel)) rfl
theorem ki_X5_usedOf : Cond.instanceMethod yX5_usedOf ∈ lw_all := lw_m (List.mem_of_getElem? (i := 623) (by decide +kernel)) rfl
theorem kc_X5_usedOf : Cond.code yX5_usedOf cX5_usedOf 4 (some FieldType.int) ∈ lw_all := lw_m (List.mem_of_getElem? (i := 624) (by decide +kernel)) rfl
theorem kmX5_129 : Cond.methodLink RX5 129 yX5_last ∈ lw_all := lw_m (List.mem_of_getElem? (i := 625) (by decide +kernel)) rfl
theorem ki_X5_last : Cond.instanceMethod yX5_last ∈ lw_all := lw_m (List.mem_of_getElem? (i := 627) (by decide +kernel)) rfl
theorem kc_X5_last : Cond.code yX5_last cX5_last 2 (some FieldType.int) ∈ lw_all := lw_m (List.mem_of_getElem? (i := 628) (by decide +kernel)) rfl
theorem kmX5_132 : Cond.methodLink RX5 132 yX5_counts ∈ lw_all := lw_m (List.mem_of_getElem? (i := 629) (by decide +kernel)) rfl
theorem ki_X5_counts : Cond.instanceMethod yX5_counts ∈ lw_all := lw_m (List.mem_of_getElem? (i := 631) (by decide +kernel)) rfl
theorem kc_X5_counts : Cond.code yX5_counts cX5_counts 4 (some FieldType.boolean) ∈ lw_all := lw_m (List.mem_of_getElem? (i := 632) (by decide +kernel)) rfl
theorem kmL_87 : Cond.methodLink RL 87 yX5_shared ∈ lw_all := lw_m (List.mem_of_getElem? (i := 633) (by decide +kernel)) rfl
theorem ki_X5_shared : Cond.instanceMethod yX5_shared ∈ lw_all := lw_m (List.mem_of_getElem? (i := 634) (by decide +kernel)) rfl
theorem ks_X5_shared : Cond.selects RX5 yX5_shared yX5_shared ∈ lw_all := lw_m (List.mem_of_getElem? (i := 635) (by decide +kernel)) rfl
theorem kc_X5_shared : Cond.code yX5_shared cX5_shared 7 (some FieldType.int) ∈ lw_all := lw_m (List.mem_of_getElem? (i := 636) (by decide +kernel)) rfl
theorem kmL_91 : Cond.methodLink RL 91 yX5_delay ∈ lw_all := lw_m (List.mem_of_getElem? (i := 637) (by decide +kernel)) rfl
theorem ki_X5_delay : Cond.instanceMethod yX5_delay ∈ lw_all := lw_m (List.mem_of_getElem? (i := 638) (by decide +kernel)) rfl
theorem ks_X5_delay : Cond.selects RX5 yX5_delay yX5_delay ∈ lw_all := lw_m (List.mem_of_getElem? (i := 639) (by decide +kernel)) rfl
theorem kc_X5_delay : Cond.code yX5_delay cX5_delay 3 (some FieldType.int) ∈ lw_all := lw_m (List.mem_of_getElem? (i := 640) (by decide +kernel)) rfl
theorem kmL_95 : Cond.methodLink RL 95 yX5_letter ∈ lw_all := lw_m (List.mem_of_getElem? (i := 641) (by decide +kernel)) rfl
theorem ki_X5_letter : Cond.instanceMethod yX5_letter ∈ lw_all := lw_m (List.mem_of_getElem? (i := 642) (by decide +kernel)) rfl
theorem ks_X5_letter : Cond.selects RX5 yX5_letter yX5_letter ∈ lw_all := lw_m (List.mem_of_getElem? (i := 643) (by decide +kernel)) rfl
theorem kc_X5_letter : Cond.code yX5_letter cX5_letter 3 (some FieldType.int) ∈ lw_all := lw_m (List.mem_of_getElem? (i := 644) (by decide +kernel)) rfl
theorem kmX5_140 : Cond.methodLink RX5 140 yX5_isHere ∈ lw_all := lw_m (List.mem_of_getElem? (i := 645) (by decide +kernel)) rfl
theorem ki_X5_isHere : Cond.instanceMethod yX5_isHere ∈ lw_all := lw_m (List.mem_of_getElem? (i := 647) (by decide +kernel)) rfl
theorem kc_X5_isHere : Cond.code yX5_isHere cX5_isHere 2 (some FieldType.boolean) ∈ lw_all := lw_m (List.mem_of_getElem? (i := 648) (by decide +kernel)) rfl
theorem kmL_99 : Cond.methodLink RL 99 yX5_foretold ∈ lw_all := lw_m (List.mem_of_getElem? (i := 649) (by decide +kernel)) rfl
theorem ki_X5_foretold : Cond.instanceMethod yX5_foretold ∈ lw_all := lw_m (List.mem_of_getElem? (i := 650) (by decide +kernel)) rfl
theorem ks_X5_foretold : Cond.selects RX5 yX5_foretold yX5_foretold ∈ lw_all := lw_m (List.mem_of_getElem? (i := 651) (by decide +kernel)) rfl
theorem kc_X5_foretold : Cond.code yX5_foretold cX5_foretold 5 (some FieldType.int) ∈ lw_all := lw_m (List.mem_of_getElem? (i := 652) (by decide +kernel)) rfl
theorem kmL_103 : Cond.methodLink RL 103 yX5_count ∈ lw_all := lw_m (List.mem_of_getElem? (i := 653) (by decide +kernel)) rfl
theorem ki_X5_count : Cond.instanceMethod yX5_count ∈ lw_all := lw_m (List.mem_of_getElem? (i := 654) (by decide +kernel)) rfl
theorem ks_X5_count : Cond.selects RX5 yX5_count yX5_count ∈ lw_all := lw_m (List.mem_of_getElem? (i := 655) (by decide +kernel)) rfl
theorem kc_X5_count : Cond.code yX5_count cX5_count 5 (some FieldType.int) ∈ lw_all := lw_m (List.mem_of_getElem? (i := 656) (by decide +kernel)) rfl
theorem kmL_108 : Cond.methodLink RL 108 yX5_trace ∈ lw_all := lw_m (List.mem_of_getElem? (i := 657) (by decide +kernel)) rfl
theorem ki_X5_trace : Cond.instanceMethod yX5_trace ∈ lw_all := lw_m (List.mem_of_getElem? (i := 658) (by decide +kernel)) rfl
theorem ks_X5_trace : Cond.selects RX5 yX5_trace yX5_trace ∈ lw_all := lw_m (List.mem_of_getElem? (i := 659) (by decide +kernel)) rfl
theorem kc_X5_trace : Cond.code yX5_trace cX5_trace 1 (some FieldType.long) ∈ lw_all := lw_m (List.mem_of_getElem? (i := 660) (by decide +kernel)) rfl
theorem kkL_60 : Cond.constantLong RL 60 (4294967295) ∈ lw_all := lw_m (List.mem_of_getElem? (i := 661) (by decide +kernel)) rfl
end
section
theorem dX0_init_0 : decode cX0_init 0 = .ok (.aload_n 0, 1) := by decide +kernel
theorem dX0_init_1 : decode cX0_init 1 = .ok (.invokespecial 3, 3) := by decide +kernel
theorem dX0_init_4 : decode cX0_init 4 = .ok (.aload_n 0, 1) := by decide +kernel
theorem dX0_init_5 : decode cX0_init 5 = .ok (.bipush 30, 2) := by decide +kernel
theorem dX0_init_7 : decode cX0_init 7 = .ok (.newarray .int, 2) := by decide +kernel
theorem dX0_init_9 : decode cX0_init 9 = .ok (.putfield 9, 3) := by decide +kernel
theorem dX0_init_12 : decode cX0_init 12 = .ok (.aload_n 0, 1) := by decide +kernel
theorem dX0_init_13 : decode cX0_init 13 = .ok (.bipush 6, 2) := by decide +kernel
theorem dX0_init_15 : decode cX0_init 15 = .ok (.newarray .int, 2) := by decide +kernel
theorem dX0_init_17 : decode cX0_init 17 = .ok (.putfield 15, 3) := by decide +kernel
theorem dX0_init_20 : decode cX0_init 20 = .ok (.aload_n 0, 1) := by decide +kernel
theorem dX0_init_21 : decode cX0_init 21 = .ok (.iconst 0, 1) := by decide +kernel
theorem dX0_init_22 : decode cX0_init 22 = .ok (.putfield 18, 3) := by decide +kernel
theorem dX0_init_25 : decode cX0_init 25 = .ok (.return_, 1) := by decide +kernel
theorem dX0_append_0 : decode cX0_append 0 = .ok (.iload_n 3, 1) := by decide +kernel
theorem dX0_append_1 : decode cX0_append 1 = .ok (.iconst 1, 1) := by decide +kernel
theorem dX0_append_2 : decode cX0_append 2 = .ok (.isub, 1) := by decide +kernel
theorem dX0_append_3 : decode cX0_append 3 = .ok (.istore 4, 2) := by decide +kernel
theorem dX0_append_5 : decode cX0_append 5 = .ok (.iload 4, 2) := by decide +kernel
theorem dX0_append_7 : decode cX0_append 7 = .ok (.ifCond .lt 40, 3) := by decide +kernel
theorem dX0_append_10 : decode cX0_append 10 = .ok (.aload_n 0, 1) := by decide +kernel
theorem dX0_append_11 : decode cX0_append 11 = .ok (.getfield 9, 3) := by decide +kernel
theorem dX0_append_14 : decode cX0_append 14 = .ok (.aload_n 0, 1) := by decide +kernel
theorem dX0_append_15 : decode cX0_append 15 = .ok (.getfield 18, 3) := by decide +kernel
theorem dX0_append_18 : decode cX0_append 18 = .ok (.lload_n 1, 1) := by decide +kernel
theorem dX0_append_19 : decode cX0_append 19 = .ok (.bipush 8, 2) := by decide +kernel
theorem dX0_append_21 : decode cX0_append 21 = .ok (.iload 4, 2) := by decide +kernel
theorem dX0_append_23 : decode cX0_append 23 = .ok (.imul, 1) := by decide +kernel
theorem dX0_append_24 : decode cX0_append 24 = .ok (.lushr, 1) := by decide +kernel
theorem dX0_append_25 : decode cX0_append 25 = .ok (.l2i, 1) := by decide +kernel
theorem dX0_append_26 : decode cX0_append 26 = .ok (.sipush 255, 3) := by decide +kernel
theorem dX0_append_29 : decode cX0_append 29 = .ok (.iand, 1) := by decide +kernel
theorem dX0_append_30 : decode cX0_append 30 = .ok (.iastore, 1) := by decide +kernel
theorem dX0_append_31 : decode cX0_append 31 = .ok (.aload_n 0, 1) := by decide +kernel
theorem dX0_append_32 : decode cX0_append 32 = .ok (.dup, 1) := by decide +kernel
theorem dX0_append_33 : decode cX0_append 33 = .ok (.getfield 18, 3) := by decide +kernel
theorem dX0_append_36 : decode cX0_append 36 = .ok (.iconst 1, 1) := by decide +kernel
theorem dX0_append_37 : decode cX0_append 37 = .ok (.iadd, 1) := by decide +kernel
theorem dX0_append_38 : decode cX0_append 38 = .ok (.putfield 18, 3) := by decide +kernel
theorem dX0_append_41 : decode cX0_append 41 = .ok (.iinc 4 (-1), 3) := by decide +kernel
theorem dX0_append_44 : decode cX0_append 44 = .ok (.goto (-39), 3) := by decide +kernel
theorem dX0_append_47 : decode cX0_append 47 = .ok (.return_, 1) := by decide +kernel
theorem dX0_read_0 : decode cX0_read 0 = .ok (.iconst 0, 1) := by decide +kernel
theorem dX0_read_1 : decode cX0_read 1 = .ok (.istore_n 1, 1) := by decide +kernel
theorem dX0_read_2 : decode cX0_read 2 = .ok (.iload_n 1, 1) := by decide +kernel
theorem dX0_read_3 : decode cX0_read 3 = .ok (.bipush 6, 2) := by decide +kernel
theorem dX0_read_5 : decode cX0_read 5 = .ok (.if_icmp .ge 16, 3) := by decide +kernel
theorem dX0_read_8 : decode cX0_read 8 = .ok (.aload_n 0, 1) := by decide +kernel
theorem dX0_read_9 : decode cX0_read 9 = .ok (.getfield 15, 3) := by decide +kernel
theorem dX0_read_12 : decode cX0_read 12 = .ok (.iload_n 1, 1) := by decide +kernel
theorem dX0_read_13 : decode cX0_read 13 = .ok (.iconst 0, 1) := by decide +kernel
theorem dX0_read_14 : decode cX0_read 14 = .ok (.iastore, 1) := by decide +kernel
theorem dX0_read_15 : decode cX0_read 15 = .ok (.iinc 1 1, 3) := by decide +kernel
theorem dX0_read_18 : decode cX0_read 18 = .ok (.goto (-16), 3) := by decide +kernel
theorem dX0_read_21 : decode cX0_read 21 = .ok (.iconst (-1), 1) := by decide +kernel
theorem dX0_read_22 : decode cX0_read 22 = .ok (.istore_n 1, 1) := by decide +kernel
theorem dX0_read_23 : decode cX0_read 23 = .ok (.iconst 0, 1) := by decide +kernel
theorem dX0_read_24 : decode cX0_read 24 = .ok (.istore_n 2, 1) := by decide +kernel
theorem dX0_read_25 : decode cX0_read 25 = .ok (.iconst 0, 1) := by decide +kernel
theorem dX0_read_26 : decode cX0_read 26 = .ok (.istore_n 3, 1) := by decide +kernel
theorem dX0_read_27 : decode cX0_read 27 = .ok (.iload_n 3, 1) := by decide +kernel
theorem dX0_read_28 : decode cX0_read 28 = .ok (.aload_n 0, 1) := by decide +kernel
theorem dX0_read_29 : decode cX0_read 29 = .ok (.getfield 18, 3) := by decide +kernel
theorem dX0_read_32 : decode cX0_read 32 = .ok (.if_icmp .ge 95, 3) := by decide +kernel
theorem dX0_read_35 : decode cX0_read 35 = .ok (.aload_n 0, 1) := by decide +kernel
theorem dX0_read_36 : decode cX0_read 36 = .ok (.getfield 9, 3) := by decide +kernel
theorem dX0_read_39 : decode cX0_read 39 = .ok (.iload_n 3, 1) := by decide +kernel
theorem dX0_read_40 : decode cX0_read 40 = .ok (.iaload, 1) := by decide +kernel
theorem dX0_read_41 : decode cX0_read 41 = .ok (.istore 4, 2) := by decide +kernel
theorem dX0_read_43 : decode cX0_read 43 = .ok (.iload 4, 2) := by decide +kernel
theorem dX0_read_45 : decode cX0_read 45 = .ok (.bipush 48, 2) := by decide +kernel
theorem dX0_read_47 : decode cX0_read 47 = .ok (.if_icmp .lt 37, 3) := by decide +kernel
theorem dX0_read_50 : decode cX0_read 50 = .ok (.iload 4, 2) := by decide +kernel
theorem dX0_read_52 : decode cX0_read 52 = .ok (.bipush 57, 2) := by decide +kernel
theorem dX0_read_54 : decode cX0_read 54 = .ok (.if_icmp .gt 30, 3) := by decide +kernel
theorem dX0_read_57 : decode cX0_read 57 = .ok (.iload_n 1, 1) := by decide +kernel
theorem dX0_read_58 : decode cX0_read 58 = .ok (.invokestatic 22, 3) := by decide +kernel
theorem dX0_read_61 : decode cX0_read 61 = .ok (.ifCond .eq 16, 3) := by decide +kernel
theorem dX0_read_64 : decode cX0_read 64 = .ok (.aload_n 0, 1) := by decide +kernel
theorem dX0_read_65 : decode cX0_read 65 = .ok (.iload_n 1, 1) := by decide +kernel
theorem dX0_read_66 : decode cX0_read 66 = .ok (.iload 4, 2) := by decide +kernel
theorem dX0_read_68 : decode cX0_read 68 = .ok (.bipush 48, 2) := by decide +kernel
theorem dX0_read_70 : decode cX0_read 70 = .ok (.isub, 1) := by decide +kernel
theorem dX0_read_71 : decode cX0_read 71 = .ok (.invokevirtual 26, 3) := by decide +kernel
theorem dX0_read_74 : decode cX0_read 74 = .ok (.ifCond .ne 5, 3) := by decide +kernel
theorem dX0_read_77 : decode cX0_read 77 = .ok (.iload_n 3, 1) := by decide +kernel
theorem dX0_read_78 : decode cX0_read 78 = .ok (.ireturn, 1) := by decide +kernel
theorem dX0_read_79 : decode cX0_read 79 = .ok (.iconst 0, 1) := by decide +kernel
theorem dX0_read_80 : decode cX0_read 80 = .ok (.istore_n 2, 1) := by decide +kernel
theorem dX0_read_81 : decode cX0_read 81 = .ok (.goto 40, 3) := by decide +kernel
theorem dX0_read_84 : decode cX0_read 84 = .ok (.iload 4, 2) := by decide +kernel
theorem dX0_read_86 : decode cX0_read 86 = .ok (.invokestatic 30, 3) := by decide +kernel
theorem dX0_read_89 : decode cX0_read 89 = .ok (.istore_n 1, 1) := by decide +kernel
theorem dX0_read_90 : decode cX0_read 90 = .ok (.iload_n 2, 1) := by decide +kernel
theorem dX0_read_91 : decode cX0_read 91 = .ok (.ifCond .ne 8, 3) := by decide +kernel
theorem dX0_read_94 : decode cX0_read 94 = .ok (.iload_n 1, 1) := by decide +kernel
theorem dX0_read_95 : decode cX0_read 95 = .ok (.iconst (-1), 1) := by decide +kernel
theorem dX0_read_96 : decode cX0_read 96 = .ok (.if_icmp .ne 5, 3) := by decide +kernel
theorem dX0_read_99 : decode cX0_read 99 = .ok (.iload_n 3, 1) := by decide +kernel
theorem dX0_read_100 : decode cX0_read 100 = .ok (.ireturn, 1) := by decide +kernel
theorem dX0_read_101 : decode cX0_read 101 = .ok (.iload_n 1, 1) := by decide +kernel
theorem dX0_read_102 : decode cX0_read 102 = .ok (.invokestatic 22, 3) := by decide +kernel
theorem dX0_read_105 : decode cX0_read 105 = .ok (.istore_n 2, 1) := by decide +kernel
theorem dX0_read_106 : decode cX0_read 106 = .ok (.aload_n 0, 1) := by decide +kernel
theorem dX0_read_107 : decode cX0_read 107 = .ok (.getfield 15, 3) := by decide +kernel
theorem dX0_read_110 : decode cX0_read 110 = .ok (.iload_n 1, 1) := by decide +kernel
theorem dX0_read_111 : decode cX0_read 111 = .ok (.iload_n 2, 1) := by decide +kernel
theorem dX0_read_112 : decode cX0_read 112 = .ok (.ifCond .eq 7, 3) := by decide +kernel
theorem dX0_read_115 : decode cX0_read 115 = .ok (.iconst 0, 1) := by decide +kernel
theorem dX0_read_116 : decode cX0_read 116 = .ok (.goto 4, 3) := by decide +kernel
theorem dX0_read_119 : decode cX0_read 119 = .ok (.iconst 1, 1) := by decide +kernel
theorem dX0_read_120 : decode cX0_read 120 = .ok (.iastore, 1) := by decide +kernel
theorem dX0_read_121 : decode cX0_read 121 = .ok (.iinc 3 1, 3) := by decide +kernel
theorem dX0_read_124 : decode cX0_read 124 = .ok (.goto (-97), 3) := by decide +kernel
theorem dX0_read_127 : decode cX0_read 127 = .ok (.iload_n 2, 1) := by decide +kernel
theorem dX0_read_128 : decode cX0_read 128 = .ok (.ifCond .eq 10, 3) := by decide +kernel
theorem dX0_read_131 : decode cX0_read 131 = .ok (.aload_n 0, 1) := by decide +kernel
theorem dX0_read_132 : decode cX0_read 132 = .ok (.getfield 18, 3) := by decide +kernel
theorem dX0_read_135 : decode cX0_read 135 = .ok (.goto 4, 3) := by decide +kernel
theorem dX0_read_138 : decode cX0_read 138 = .ok (.iconst (-1), 1) := by decide +kernel
theorem dX0_read_139 : decode cX0_read 139 = .ok (.ireturn, 1) := by decide +kernel
theorem dX0_takesNumber_0 : decode cX0_takesNumber 0 = .ok (.iload_n 0, 1) := by decide +kernel
theorem dX0_takesNumber_1 : decode cX0_takesNumber 1 = .ok (.ifCond .lt 12, 3) := by decide +kernel
theorem dX0_takesNumber_4 : decode cX0_takesNumber 4 = .ok (.iload_n 0, 1) := by decide +kernel
theorem dX0_takesNumber_5 : decode cX0_takesNumber 5 = .ok (.iconst 2, 1) := by decide +kernel
theorem dX0_takesNumber_6 : decode cX0_takesNumber 6 = .ok (.if_icmp .gt 7, 3) := by decide +kernel
theorem dX0_takesNumber_9 : decode cX0_takesNumber 9 = .ok (.iconst 1, 1) := by decide +kernel
theorem dX0_takesNumber_10 : decode cX0_takesNumber 10 = .ok (.goto 4, 3) := by decide +kernel
theorem dX0_takesNumber_13 : decode cX0_takesNumber 13 = .ok (.iconst 0, 1) := by decide +kernel
theorem dX0_takesNumber_14 : decode cX0_takesNumber 14 = .ok (.ireturn, 1) := by decide +kernel
theorem dX0_addDigit_0 : decode cX0_addDigit 0 = .ok (.aload_n 0, 1) := by decide +kernel
theorem dX0_addDigit_1 : decode cX0_addDigit 1 = .ok (.getfield 15, 3) := by decide +kernel
theorem dX0_addDigit_4 : decode cX0_addDigit 4 = .ok (.iload_n 1, 1) := by decide +kernel
theorem dX0_addDigit_5 : decode cX0_addDigit 5 = .ok (.bipush 10, 2) := by decide +kernel
theorem dX0_addDigit_7 : decode cX0_addDigit 7 = .ok (.aload_n 0, 1) := by decide +kernel
theorem dX0_addDigit_8 : decode cX0_addDigit 8 = .ok (.getfield 15, 3) := by decide +kernel
theorem dX0_addDigit_11 : decode cX0_addDigit 11 = .ok (.iload_n 1, 1) := by decide +kernel
theorem dX0_addDigit_12 : decode cX0_addDigit 12 = .ok (.iaload, 1) := by decide +kernel
theorem dX0_addDigit_13 : decode cX0_addDigit 13 = .ok (.imul, 1) := by decide +kernel
theorem dX0_addDigit_14 : decode cX0_addDigit 14 = .ok (.iload_n 2, 1) := by decide +kernel
theorem dX0_addDigit_15 : decode cX0_addDigit 15 = .ok (.iadd, 1) := by decide +kernel
theorem dX0_addDigit_16 : decode cX0_addDigit 16 = .ok (.iastore, 1) := by decide +kernel
theorem dX0_addDigit_17 : decode cX0_addDigit 17 = .ok (.aload_n 0, 1) := by decide +kernel
theorem dX0_addDigit_18 : decode cX0_addDigit 18 = .ok (.getfield 15, 3) := by decide +kernel
theorem dX0_addDigit_21 : decode cX0_addDigit 21 = .ok (.iload_n 1, 1) := by decide +kernel
theorem dX0_addDigit_22 : decode cX0_addDigit 22 = .ok (.iaload, 1) := by decide +kernel
theorem dX0_addDigit_23 : decode cX0_addDigit 23 = .ok (.sipush 999, 3) := by decide +kernel
theorem dX0_addDigit_26 : decode cX0_addDigit 26 = .ok (.if_icmp .gt 7, 3) := by decide +kernel
theorem dX0_addDigit_29 : decode cX0_addDigit 29 = .ok (.iconst 1, 1) := by decide +kernel
theorem dX0_addDigit_30 : decode cX0_addDigit 30 = .ok (.goto 4, 3) := by decide +kernel
theorem dX0_addDigit_33 : decode cX0_addDigit 33 = .ok (.iconst 0, 1) := by decide +kernel
theorem dX0_addDigit_34 : decode cX0_addDigit 34 = .ok (.ireturn, 1) := by decide +kernel
theorem dX0_termOf_0 : decode cX0_termOf 0 = .ok (.iload_n 0, 1) := by decide +kernel
theorem dX0_termOf_1 : decode cX0_termOf 1 = .ok (.lookupswitch 71 #[(98, 63), (100, 61), (104, 67), (108, 59), (119, 69), (120, 65)], 59) := by decide +kernel
theorem dX0_termOf_60 : decode cX0_termOf 60 = .ok (.iconst 0, 1) := by decide +kernel
theorem dX0_termOf_61 : decode cX0_termOf 61 = .ok (.ireturn, 1) := by decide +kernel
theorem dX0_termOf_62 : decode cX0_termOf 62 = .ok (.iconst 1, 1) := by decide +kernel
theorem dX0_termOf_63 : decode cX0_termOf 63 = .ok (.ireturn, 1) := by decide +kernel
theorem dX0_termOf_64 : decode cX0_termOf 64 = .ok (.iconst 2, 1) := by decide +kernel
theorem dX0_termOf_65 : decode cX0_termOf 65 = .ok (.ireturn, 1) := by decide +kernel
theorem dX0_termOf_66 : decode cX0_termOf 66 = .ok (.iconst 3, 1) := by decide +kernel
theorem dX0_termOf_67 : decode cX0_termOf 67 = .ok (.ireturn, 1) := by decide +kernel
theorem dX0_termOf_68 : decode cX0_termOf 68 = .ok (.iconst 4, 1) := by decide +kernel
theorem dX0_termOf_69 : decode cX0_termOf 69 = .ok (.ireturn, 1) := by decide +kernel
theorem dX0_termOf_70 : decode cX0_termOf 70 = .ok (.iconst 5, 1) := by decide +kernel
theorem dX0_termOf_71 : decode cX0_termOf 71 = .ok (.ireturn, 1) := by decide +kernel
theorem dX0_termOf_72 : decode cX0_termOf 72 = .ok (.iconst (-1), 1) := by decide +kernel
theorem dX0_termOf_73 : decode cX0_termOf 73 = .ok (.ireturn, 1) := by decide +kernel
theorem dX1_init_0 : decode cX1_init 0 = .ok (.aload_n 0, 1) := by decide +kernel
theorem dX1_init_1 : decode cX1_init 1 = .ok (.invokespecial 3, 3) := by decide +kernel
theorem dX1_init_4 : decode cX1_init 4 = .ok (.aload_n 0, 1) := by decide +kernel
theorem dX1_init_5 : decode cX1_init 5 = .ok (.bipush 6, 2) := by decide +kernel
theorem dX1_init_7 : decode cX1_init 7 = .ok (.newarray .int, 2) := by decide +kernel
theorem dX1_init_9 : decode cX1_init 9 = .ok (.putfield 9, 3) := by decide +kernel
theorem dX1_init_12 : decode cX1_init 12 = .ok (.aload_n 0, 1) := by decide +kernel
theorem dX1_init_13 : decode cX1_init 13 = .ok (.bipush 6, 2) := by decide +kernel
theorem dX1_init_15 : decode cX1_init 15 = .ok (.newarray .int, 2) := by decide +kernel
theorem dX1_init_17 : decode cX1_init 17 = .ok (.putfield 15, 3) := by decide +kernel
theorem dX1_init_20 : decode cX1_init 20 = .ok (.aload_n 0, 1) := by decide +kernel
theorem dX1_init_21 : decode cX1_init 21 = .ok (.iconst 0, 1) := by decide +kernel
theorem dX1_init_22 : decode cX1_init 22 = .ok (.putfield 18, 3) := by decide +kernel
theorem dX1_init_25 : decode cX1_init 25 = .ok (.return_, 1) := by decide +kernel
theorem dX1_has_0 : decode cX1_has 0 = .ok (.iload_n 1, 1) := by decide +kernel
theorem dX1_has_1 : decode cX1_has 1 = .ok (.ifCond .lt 15, 3) := by decide +kernel
theorem dX1_has_4 : decode cX1_has 4 = .ok (.iload_n 1, 1) := by decide +kernel
theorem dX1_has_5 : decode cX1_has 5 = .ok (.aload_n 0, 1) := by decide +kernel
theorem dX1_has_6 : decode cX1_has 6 = .ok (.getfield 18, 3) := by decide +kernel
theorem dX1_has_9 : decode cX1_has 9 = .ok (.if_icmp .ge 7, 3) := by decide +kernel
theorem dX1_has_12 : decode cX1_has 12 = .ok (.iconst 1, 1) := by decide +kernel
theorem dX1_has_13 : decode cX1_has 13 = .ok (.goto 4, 3) := by decide +kernel
theorem dX1_has_16 : decode cX1_has 16 = .ok (.iconst 0, 1) := by decide +kernel
theorem dX1_has_17 : decode cX1_has 17 = .ok (.ireturn, 1) := by decide +kernel
theorem dX1_lay_0 : decode cX1_lay 0 = .ok (.aload_n 0, 1) := by decide +kernel
theorem dX1_lay_1 : decode cX1_lay 1 = .ok (.getfield 9, 3) := by decide +kernel
theorem dX1_lay_4 : decode cX1_lay 4 = .ok (.aload_n 0, 1) := by decide +kernel
theorem dX1_lay_5 : decode cX1_lay 5 = .ok (.getfield 18, 3) := by decide +kernel
theorem dX1_lay_8 : decode cX1_lay 8 = .ok (.iload_n 1, 1) := by decide +kernel
theorem dX1_lay_9 : decode cX1_lay 9 = .ok (.iastore, 1) := by decide +kernel
theorem dX1_lay_10 : decode cX1_lay 10 = .ok (.aload_n 0, 1) := by decide +kernel
theorem dX1_lay_11 : decode cX1_lay 11 = .ok (.getfield 15, 3) := by decide +kernel
theorem dX1_lay_14 : decode cX1_lay 14 = .ok (.aload_n 0, 1) := by decide +kernel
theorem dX1_lay_15 : decode cX1_lay 15 = .ok (.getfield 18, 3) := by decide +kernel
theorem dX1_lay_18 : decode cX1_lay 18 = .ok (.iload_n 2, 1) := by decide +kernel
theorem dX1_lay_19 : decode cX1_lay 19 = .ok (.iastore, 1) := by decide +kernel
theorem dX1_lay_20 : decode cX1_lay 20 = .ok (.aload_n 0, 1) := by decide +kernel
theorem dX1_lay_21 : decode cX1_lay 21 = .ok (.dup, 1) := by decide +kernel
theorem dX1_lay_22 : decode cX1_lay 22 = .ok (.getfield 18, 3) := by decide +kernel
theorem dX1_lay_25 : decode cX1_lay 25 = .ok (.iconst 1, 1) := by decide +kernel
theorem dX1_lay_26 : decode cX1_lay 26 = .ok (.iadd, 1) := by decide +kernel
theorem dX1_lay_27 : decode cX1_lay 27 = .ok (.putfield 18, 3) := by decide +kernel
theorem dX1_lay_30 : decode cX1_lay 30 = .ok (.aload_n 0, 1) := by decide +kernel
theorem dX1_lay_31 : decode cX1_lay 31 = .ok (.getfield 18, 3) := by decide +kernel
theorem dX1_lay_34 : decode cX1_lay 34 = .ok (.iconst 1, 1) := by decide +kernel
theorem dX1_lay_35 : decode cX1_lay 35 = .ok (.isub, 1) := by decide +kernel
theorem dX1_lay_36 : decode cX1_lay 36 = .ok (.ireturn, 1) := by decide +kernel
theorem dX1_dig_0 : decode cX1_dig 0 = .ok (.iconst 0, 1) := by decide +kernel
theorem dX1_dig_1 : decode cX1_dig 1 = .ok (.istore_n 3, 1) := by decide +kernel
theorem dX1_dig_2 : decode cX1_dig 2 = .ok (.iconst 0, 1) := by decide +kernel
theorem dX1_dig_3 : decode cX1_dig 3 = .ok (.istore 4, 2) := by decide +kernel
theorem dX1_dig_5 : decode cX1_dig 5 = .ok (.iload 4, 2) := by decide +kernel
theorem dX1_dig_7 : decode cX1_dig 7 = .ok (.aload_n 0, 1) := by decide +kernel
theorem dX1_dig_8 : decode cX1_dig 8 = .ok (.getfield 18, 3) := by decide +kernel
theorem dX1_dig_11 : decode cX1_dig 11 = .ok (.if_icmp .ge 50, 3) := by decide +kernel
theorem dX1_dig_14 : decode cX1_dig 14 = .ok (.iload_n 1, 1) := by decide +kernel
theorem dX1_dig_15 : decode cX1_dig 15 = .ok (.iload_n 3, 1) := by decide +kernel
theorem dX1_dig_16 : decode cX1_dig 16 = .ok (.isub, 1) := by decide +kernel
theorem dX1_dig_17 : decode cX1_dig 17 = .ok (.aload_n 0, 1) := by decide +kernel
theorem dX1_dig_18 : decode cX1_dig 18 = .ok (.getfield 9, 3) := by decide +kernel
theorem dX1_dig_21 : decode cX1_dig 21 = .ok (.iload 4, 2) := by decide +kernel
theorem dX1_dig_23 : decode cX1_dig 23 = .ok (.iaload, 1) := by decide +kernel
theorem dX1_dig_24 : decode cX1_dig 24 = .ok (.invokestatic 22, 3) := by decide +kernel
theorem dX1_dig_27 : decode cX1_dig 27 = .ok (.istore 5, 2) := by decide +kernel
theorem dX1_dig_29 : decode cX1_dig 29 = .ok (.aload_n 0, 1) := by decide +kernel
theorem dX1_dig_30 : decode cX1_dig 30 = .ok (.getfield 9, 3) := by decide +kernel
theorem dX1_dig_33 : decode cX1_dig 33 = .ok (.iload 4, 2) := by decide +kernel
theorem dX1_dig_35 : decode cX1_dig 35 = .ok (.dup2, 1) := by decide +kernel
theorem dX1_dig_36 : decode cX1_dig 36 = .ok (.iaload, 1) := by decide +kernel
theorem dX1_dig_37 : decode cX1_dig 37 = .ok (.iload 5, 2) := by decide +kernel
theorem dX1_dig_39 : decode cX1_dig 39 = .ok (.isub, 1) := by decide +kernel
theorem dX1_dig_40 : decode cX1_dig 40 = .ok (.iastore, 1) := by decide +kernel
theorem dX1_dig_41 : decode cX1_dig 41 = .ok (.aload_n 2, 1) := by decide +kernel
theorem dX1_dig_42 : decode cX1_dig 42 = .ok (.iload 4, 2) := by decide +kernel
theorem dX1_dig_44 : decode cX1_dig 44 = .ok (.dup2, 1) := by decide +kernel
theorem dX1_dig_45 : decode cX1_dig 45 = .ok (.iaload, 1) := by decide +kernel
theorem dX1_dig_46 : decode cX1_dig 46 = .ok (.iload 5, 2) := by decide +kernel
theorem dX1_dig_48 : decode cX1_dig 48 = .ok (.iadd, 1) := by decide +kernel
theorem dX1_dig_49 : decode cX1_dig 49 = .ok (.iastore, 1) := by decide +kernel
theorem dX1_dig_50 : decode cX1_dig 50 = .ok (.iload_n 3, 1) := by decide +kernel
theorem dX1_dig_51 : decode cX1_dig 51 = .ok (.iload 5, 2) := by decide +kernel
theorem dX1_dig_53 : decode cX1_dig 53 = .ok (.iadd, 1) := by decide +kernel
theorem dX1_dig_54 : decode cX1_dig 54 = .ok (.istore_n 3, 1) := by decide +kernel
theorem dX1_dig_55 : decode cX1_dig 55 = .ok (.iinc 4 1, 3) := by decide +kernel
theorem dX1_dig_58 : decode cX1_dig 58 = .ok (.goto (-53), 3) := by decide +kernel
theorem dX1_dig_61 : decode cX1_dig 61 = .ok (.iload_n 3, 1) := by decide +kernel
theorem dX1_dig_62 : decode cX1_dig 62 = .ok (.ireturn, 1) := by decide +kernel
theorem dX1_worthOf_0 : decode cX1_worthOf 0 = .ok (.iconst 0, 1) := by decide +kernel
theorem dX1_worthOf_1 : decode cX1_worthOf 1 = .ok (.istore_n 2, 1) := by decide +kernel
theorem dX1_worthOf_2 : decode cX1_worthOf 2 = .ok (.iconst 0, 1) := by decide +kernel
theorem dX1_worthOf_3 : decode cX1_worthOf 3 = .ok (.istore_n 3, 1) := by decide +kernel
theorem dX1_worthOf_4 : decode cX1_worthOf 4 = .ok (.iload_n 3, 1) := by decide +kernel
theorem dX1_worthOf_5 : decode cX1_worthOf 5 = .ok (.aload_n 0, 1) := by decide +kernel
theorem dX1_worthOf_6 : decode cX1_worthOf 6 = .ok (.getfield 18, 3) := by decide +kernel
theorem dX1_worthOf_9 : decode cX1_worthOf 9 = .ok (.if_icmp .ge 22, 3) := by decide +kernel
theorem dX1_worthOf_12 : decode cX1_worthOf 12 = .ok (.iload_n 2, 1) := by decide +kernel
theorem dX1_worthOf_13 : decode cX1_worthOf 13 = .ok (.aload_n 1, 1) := by decide +kernel
theorem dX1_worthOf_14 : decode cX1_worthOf 14 = .ok (.iload_n 3, 1) := by decide +kernel
theorem dX1_worthOf_15 : decode cX1_worthOf 15 = .ok (.iaload, 1) := by decide +kernel
theorem dX1_worthOf_16 : decode cX1_worthOf 16 = .ok (.aload_n 0, 1) := by decide +kernel
theorem dX1_worthOf_17 : decode cX1_worthOf 17 = .ok (.getfield 15, 3) := by decide +kernel
theorem dX1_worthOf_20 : decode cX1_worthOf 20 = .ok (.iload_n 3, 1) := by decide +kernel
theorem dX1_worthOf_21 : decode cX1_worthOf 21 = .ok (.iaload, 1) := by decide +kernel
theorem dX1_worthOf_22 : decode cX1_worthOf 22 = .ok (.imul, 1) := by decide +kernel
theorem dX1_worthOf_23 : decode cX1_worthOf 23 = .ok (.iadd, 1) := by decide +kernel
theorem dX1_worthOf_24 : decode cX1_worthOf 24 = .ok (.istore_n 2, 1) := by decide +kernel
theorem dX1_worthOf_25 : decode cX1_worthOf 25 = .ok (.iinc 3 1, 3) := by decide +kernel
theorem dX1_worthOf_28 : decode cX1_worthOf 28 = .ok (.goto (-24), 3) := by decide +kernel
theorem dX1_worthOf_31 : decode cX1_worthOf 31 = .ok (.iload_n 2, 1) := by decide +kernel
theorem dX1_worthOf_32 : decode cX1_worthOf 32 = .ok (.ireturn, 1) := by decide +kernel
theorem dX1_sampleOf_0 : decode cX1_sampleOf 0 = .ok (.iconst 0, 1) := by decide +kernel
theorem dX1_sampleOf_1 : decode cX1_sampleOf 1 = .ok (.istore_n 3, 1) := by decide +kernel
theorem dX1_sampleOf_2 : decode cX1_sampleOf 2 = .ok (.iconst 0, 1) := by decide +kernel
theorem dX1_sampleOf_3 : decode cX1_sampleOf 3 = .ok (.istore 4, 2) := by decide +kernel
theorem dX1_sampleOf_5 : decode cX1_sampleOf 5 = .ok (.iconst 0, 1) := by decide +kernel
theorem dX1_sampleOf_6 : decode cX1_sampleOf 6 = .ok (.istore 5, 2) := by decide +kernel
theorem dX1_sampleOf_8 : decode cX1_sampleOf 8 = .ok (.iconst 0, 1) := by decide +kernel
theorem dX1_sampleOf_9 : decode cX1_sampleOf 9 = .ok (.istore 6, 2) := by decide +kernel
theorem dX1_sampleOf_11 : decode cX1_sampleOf 11 = .ok (.iload 6, 2) := by decide +kernel
theorem dX1_sampleOf_13 : decode cX1_sampleOf 13 = .ok (.aload_n 0, 1) := by decide +kernel
theorem dX1_sampleOf_14 : decode cX1_sampleOf 14 = .ok (.getfield 18, 3) := by decide +kernel
theorem dX1_sampleOf_17 : decode cX1_sampleOf 17 = .ok (.if_icmp .ge 52, 3) := by decide +kernel
theorem dX1_sampleOf_20 : decode cX1_sampleOf 20 = .ok (.iload_n 3, 1) := by decide +kernel
theorem dX1_sampleOf_21 : decode cX1_sampleOf 21 = .ok (.aload_n 1, 1) := by decide +kernel
theorem dX1_sampleOf_22 : decode cX1_sampleOf 22 = .ok (.iload 6, 2) := by decide +kernel
theorem dX1_sampleOf_24 : decode cX1_sampleOf 24 = .ok (.iaload, 1) := by decide +kernel
theorem dX1_sampleOf_25 : decode cX1_sampleOf 25 = .ok (.iadd, 1) := by decide +kernel
theorem dX1_sampleOf_26 : decode cX1_sampleOf 26 = .ok (.istore 7, 2) := by decide +kernel
theorem dX1_sampleOf_28 : decode cX1_sampleOf 28 = .ok (.iload 7, 2) := by decide +kernel
theorem dX1_sampleOf_30 : decode cX1_sampleOf 30 = .ok (.iload_n 2, 1) := by decide +kernel
theorem dX1_sampleOf_31 : decode cX1_sampleOf 31 = .ok (.idiv, 1) := by decide +kernel
theorem dX1_sampleOf_32 : decode cX1_sampleOf 32 = .ok (.iload_n 3, 1) := by decide +kernel
theorem dX1_sampleOf_33 : decode cX1_sampleOf 33 = .ok (.iload_n 2, 1) := by decide +kernel
theorem dX1_sampleOf_34 : decode cX1_sampleOf 34 = .ok (.idiv, 1) := by decide +kernel
theorem dX1_sampleOf_35 : decode cX1_sampleOf 35 = .ok (.isub, 1) := by decide +kernel
theorem dX1_sampleOf_36 : decode cX1_sampleOf 36 = .ok (.istore 8, 2) := by decide +kernel
theorem dX1_sampleOf_38 : decode cX1_sampleOf 38 = .ok (.iload 4, 2) := by decide +kernel
theorem dX1_sampleOf_40 : decode cX1_sampleOf 40 = .ok (.iload 8, 2) := by decide +kernel
theorem dX1_sampleOf_42 : decode cX1_sampleOf 42 = .ok (.aload_n 0, 1) := by decide +kernel
theorem dX1_sampleOf_43 : decode cX1_sampleOf 43 = .ok (.getfield 15, 3) := by decide +kernel
theorem dX1_sampleOf_46 : decode cX1_sampleOf 46 = .ok (.iload 6, 2) := by decide +kernel
theorem dX1_sampleOf_48 : decode cX1_sampleOf 48 = .ok (.iaload, 1) := by decide +kernel
theorem dX1_sampleOf_49 : decode cX1_sampleOf 49 = .ok (.imul, 1) := by decide +kernel
theorem dX1_sampleOf_50 : decode cX1_sampleOf 50 = .ok (.iadd, 1) := by decide +kernel
theorem dX1_sampleOf_51 : decode cX1_sampleOf 51 = .ok (.istore 4, 2) := by decide +kernel
theorem dX1_sampleOf_53 : decode cX1_sampleOf 53 = .ok (.iload 5, 2) := by decide +kernel
theorem dX1_sampleOf_55 : decode cX1_sampleOf 55 = .ok (.iload 8, 2) := by decide +kernel
theorem dX1_sampleOf_57 : decode cX1_sampleOf 57 = .ok (.iadd, 1) := by decide +kernel
theorem dX1_sampleOf_58 : decode cX1_sampleOf 58 = .ok (.istore 5, 2) := by decide +kernel
theorem dX1_sampleOf_60 : decode cX1_sampleOf 60 = .ok (.iload 7, 2) := by decide +kernel
theorem dX1_sampleOf_62 : decode cX1_sampleOf 62 = .ok (.istore_n 3, 1) := by decide +kernel
theorem dX1_sampleOf_63 : decode cX1_sampleOf 63 = .ok (.iinc 6 1, 3) := by decide +kernel
theorem dX1_sampleOf_66 : decode cX1_sampleOf 66 = .ok (.goto (-55), 3) := by decide +kernel
theorem dX1_sampleOf_69 : decode cX1_sampleOf 69 = .ok (.iload 5, 2) := by decide +kernel
theorem dX1_sampleOf_71 : decode cX1_sampleOf 71 = .ok (.ifCond .ne 8, 3) := by decide +kernel
theorem dX1_sampleOf_74 : decode cX1_sampleOf 74 = .ok (.bipush (-9), 2) := by decide +kernel
theorem dX1_sampleOf_76 : decode cX1_sampleOf 76 = .ok (.goto 8, 3) := by decide +kernel
theorem dX1_sampleOf_79 : decode cX1_sampleOf 79 = .ok (.iload 4, 2) := by decide +kernel
theorem dX1_sampleOf_81 : decode cX1_sampleOf 81 = .ok (.iload 5, 2) := by decide +kernel
theorem dX1_sampleOf_83 : decode cX1_sampleOf 83 = .ok (.idiv, 1) := by decide +kernel
theorem dX1_sampleOf_84 : decode cX1_sampleOf 84 = .ok (.ireturn, 1) := by decide +kernel
theorem dX2_init_0 : decode cX2_init 0 = .ok (.aload_n 0, 1) := by decide +kernel
theorem dX2_init_1 : decode cX2_init 1 = .ok (.invokespecial 3, 3) := by decide +kernel
theorem dX2_init_4 : decode cX2_init 4 = .ok (.aload_n 0, 1) := by decide +kernel
theorem dX2_init_5 : decode cX2_init 5 = .ok (.sipush 200, 3) := by decide +kernel
theorem dX2_init_8 : decode cX2_init 8 = .ok (.newarray .int, 2) := by decide +kernel
theorem dX2_init_10 : decode cX2_init 10 = .ok (.putfield 9, 3) := by decide +kernel
theorem dX2_init_13 : decode cX2_init 13 = .ok (.aload_n 0, 1) := by decide +kernel
theorem dX2_init_14 : decode cX2_init 14 = .ok (.sipush 200, 3) := by decide +kernel
theorem dX2_init_17 : decode cX2_init 17 = .ok (.newarray .int, 2) := by decide +kernel
theorem dX2_init_19 : decode cX2_init 19 = .ok (.putfield 15, 3) := by decide +kernel
theorem dX2_init_22 : decode cX2_init 22 = .ok (.aload_n 0, 1) := by decide +kernel
theorem dX2_init_23 : decode cX2_init 23 = .ok (.sipush 200, 3) := by decide +kernel
theorem dX2_init_26 : decode cX2_init 26 = .ok (.newarray .int, 2) := by decide +kernel
theorem dX2_init_28 : decode cX2_init 28 = .ok (.putfield 18, 3) := by decide +kernel
theorem dX2_init_31 : decode cX2_init 31 = .ok (.return_, 1) := by decide +kernel
theorem dX2_tell_0 : decode cX2_tell 0 = .ok (.aload_n 0, 1) := by decide +kernel
theorem dX2_tell_1 : decode cX2_tell 1 = .ok (.getfield 9, 3) := by decide +kernel
theorem dX2_tell_4 : decode cX2_tell 4 = .ok (.iload_n 1, 1) := by decide +kernel
theorem dX2_tell_5 : decode cX2_tell 5 = .ok (.iload_n 2, 1) := by decide +kernel
theorem dX2_tell_6 : decode cX2_tell 6 = .ok (.iastore, 1) := by decide +kernel
theorem dX2_tell_7 : decode cX2_tell 7 = .ok (.aload_n 0, 1) := by decide +kernel
theorem dX2_tell_8 : decode cX2_tell 8 = .ok (.getfield 15, 3) := by decide +kernel
theorem dX2_tell_11 : decode cX2_tell 11 = .ok (.iload_n 1, 1) := by decide +kernel
theorem dX2_tell_12 : decode cX2_tell 12 = .ok (.iload_n 3, 1) := by decide +kernel
theorem dX2_tell_13 : decode cX2_tell 13 = .ok (.iastore, 1) := by decide +kernel
theorem dX2_tell_14 : decode cX2_tell 14 = .ok (.aload_n 0, 1) := by decide +kernel
theorem dX2_tell_15 : decode cX2_tell 15 = .ok (.getfield 18, 3) := by decide +kernel
theorem dX2_tell_18 : decode cX2_tell 18 = .ok (.iload_n 1, 1) := by decide +kernel
theorem dX2_tell_19 : decode cX2_tell 19 = .ok (.iload 4, 2) := by decide +kernel
theorem dX2_tell_21 : decode cX2_tell 21 = .ok (.iastore, 1) := by decide +kernel
theorem dX2_tell_22 : decode cX2_tell 22 = .ok (.return_, 1) := by decide +kernel
theorem dX2_dugFrom_0 : decode cX2_dugFrom 0 = .ok (.iconst 0, 1) := by decide +kernel
theorem dX2_dugFrom_1 : decode cX2_dugFrom 1 = .ok (.istore_n 3, 1) := by decide +kernel
theorem dX2_dugFrom_2 : decode cX2_dugFrom 2 = .ok (.iload_n 1, 1) := by decide +kernel
theorem dX2_dugFrom_3 : decode cX2_dugFrom 3 = .ok (.istore 4, 2) := by decide +kernel
theorem dX2_dugFrom_5 : decode cX2_dugFrom 5 = .ok (.iload 4, 2) := by decide +kernel
theorem dX2_dugFrom_7 : decode cX2_dugFrom 7 = .ok (.iload_n 2, 1) := by decide +kernel
theorem dX2_dugFrom_8 : decode cX2_dugFrom 8 = .ok (.if_icmp .gt 19, 3) := by decide +kernel
theorem dX2_dugFrom_11 : decode cX2_dugFrom 11 = .ok (.iload_n 3, 1) := by decide +kernel
theorem dX2_dugFrom_12 : decode cX2_dugFrom 12 = .ok (.aload_n 0, 1) := by decide +kernel
theorem dX2_dugFrom_13 : decode cX2_dugFrom 13 = .ok (.getfield 15, 3) := by decide +kernel
theorem dX2_dugFrom_16 : decode cX2_dugFrom 16 = .ok (.iload 4, 2) := by decide +kernel
theorem dX2_dugFrom_18 : decode cX2_dugFrom 18 = .ok (.iaload, 1) := by decide +kernel
theorem dX2_dugFrom_19 : decode cX2_dugFrom 19 = .ok (.iadd, 1) := by decide +kernel
theorem dX2_dugFrom_20 : decode cX2_dugFrom 20 = .ok (.istore_n 3, 1) := by decide +kernel
theorem dX2_dugFrom_21 : decode cX2_dugFrom 21 = .ok (.iinc 4 1, 3) := by decide +kernel
theorem dX2_dugFrom_24 : decode cX2_dugFrom 24 = .ok (.goto (-19), 3) := by decide +kernel
theorem dX2_dugFrom_27 : decode cX2_dugFrom 27 = .ok (.iload_n 3, 1) := by decide +kernel
theorem dX2_dugFrom_28 : decode cX2_dugFrom 28 = .ok (.ireturn, 1) := by decide +kernel
theorem dX2_foretell_0 : decode cX2_foretell 0 = .ok (.aload_n 0, 1) := by decide +kernel
theorem dX2_foretell_1 : decode cX2_foretell 1 = .ok (.iload_n 1, 1) := by decide +kernel
theorem dX2_foretell_2 : decode cX2_foretell 2 = .ok (.invokevirtual 21, 3) := by decide +kernel
theorem dX2_foretell_5 : decode cX2_foretell 5 = .ok (.istore_n 2, 1) := by decide +kernel
theorem dX2_foretell_6 : decode cX2_foretell 6 = .ok (.iload_n 2, 1) := by decide +kernel
theorem dX2_foretell_7 : decode cX2_foretell 7 = .ok (.bipush (-9), 2) := by decide +kernel
theorem dX2_foretell_9 : decode cX2_foretell 9 = .ok (.if_icmp .ne 6, 3) := by decide +kernel
theorem dX2_foretell_12 : decode cX2_foretell 12 = .ok (.bipush (-9), 2) := by decide +kernel
theorem dX2_foretell_14 : decode cX2_foretell 14 = .ok (.ireturn, 1) := by decide +kernel
theorem dX2_foretell_15 : decode cX2_foretell 15 = .ok (.iconst 0, 1) := by decide +kernel
theorem dX2_foretell_16 : decode cX2_foretell 16 = .ok (.iload_n 2, 1) := by decide +kernel
theorem dX2_foretell_17 : decode cX2_foretell 17 = .ok (.bipush 7, 2) := by decide +kernel
theorem dX2_foretell_19 : decode cX2_foretell 19 = .ok (.isub, 1) := by decide +kernel
theorem dX2_foretell_20 : decode cX2_foretell 20 = .ok (.iconst 1, 1) := by decide +kernel
theorem dX2_foretell_21 : decode cX2_foretell 21 = .ok (.iadd, 1) := by decide +kernel
theorem dX2_foretell_22 : decode cX2_foretell 22 = .ok (.invokestatic 25, 3) := by decide +kernel
theorem dX2_foretell_25 : decode cX2_foretell 25 = .ok (.istore_n 3, 1) := by decide +kernel
theorem dX2_foretell_26 : decode cX2_foretell 26 = .ok (.aload_n 0, 1) := by decide +kernel
theorem dX2_foretell_27 : decode cX2_foretell 27 = .ok (.iload_n 3, 1) := by decide +kernel
theorem dX2_foretell_28 : decode cX2_foretell 28 = .ok (.iload_n 2, 1) := by decide +kernel
theorem dX2_foretell_29 : decode cX2_foretell 29 = .ok (.invokevirtual 31, 3) := by decide +kernel
theorem dX2_foretell_32 : decode cX2_foretell 32 = .ok (.istore 4, 2) := by decide +kernel
theorem dX2_foretell_34 : decode cX2_foretell 34 = .ok (.iload 4, 2) := by decide +kernel
theorem dX2_foretell_36 : decode cX2_foretell 36 = .ok (.ifCond .ne 6, 3) := by decide +kernel
theorem dX2_foretell_39 : decode cX2_foretell 39 = .ok (.bipush (-9), 2) := by decide +kernel
theorem dX2_foretell_41 : decode cX2_foretell 41 = .ok (.ireturn, 1) := by decide +kernel
theorem dX2_foretell_42 : decode cX2_foretell 42 = .ok (.aload_n 0, 1) := by decide +kernel
theorem dX2_foretell_43 : decode cX2_foretell 43 = .ok (.getfield 9, 3) := by decide +kernel
theorem dX2_foretell_46 : decode cX2_foretell 46 = .ok (.iload_n 2, 1) := by decide +kernel
theorem dX2_foretell_47 : decode cX2_foretell 47 = .ok (.iaload, 1) := by decide +kernel
theorem dX2_foretell_48 : decode cX2_foretell 48 = .ok (.iload_n 2, 1) := by decide +kernel
theorem dX2_foretell_49 : decode cX2_foretell 49 = .ok (.iload_n 3, 1) := by decide +kernel
theorem dX2_foretell_50 : decode cX2_foretell 50 = .ok (.isub, 1) := by decide +kernel
theorem dX2_foretell_51 : decode cX2_foretell 51 = .ok (.iconst 1, 1) := by decide +kernel
theorem dX2_foretell_52 : decode cX2_foretell 52 = .ok (.iadd, 1) := by decide +kernel
theorem dX2_foretell_53 : decode cX2_foretell 53 = .ok (.imul, 1) := by decide +kernel
theorem dX2_foretell_54 : decode cX2_foretell 54 = .ok (.iload 4, 2) := by decide +kernel
theorem dX2_foretell_56 : decode cX2_foretell 56 = .ok (.iadd, 1) := by decide +kernel
theorem dX2_foretell_57 : decode cX2_foretell 57 = .ok (.iconst 1, 1) := by decide +kernel
theorem dX2_foretell_58 : decode cX2_foretell 58 = .ok (.isub, 1) := by decide +kernel
theorem dX2_foretell_59 : decode cX2_foretell 59 = .ok (.iload 4, 2) := by decide +kernel
theorem dX2_foretell_61 : decode cX2_foretell 61 = .ok (.idiv, 1) := by decide +kernel
theorem dX2_foretell_62 : decode cX2_foretell 62 = .ok (.ireturn, 1) := by decide +kernel
theorem dX2_latestCome_0 : decode cX2_latestCome 0 = .ok (.iload_n 1, 1) := by decide +kernel
theorem dX2_latestCome_1 : decode cX2_latestCome 1 = .ok (.iconst 1, 1) := by decide +kernel
theorem dX2_latestCome_2 : decode cX2_latestCome 2 = .ok (.isub, 1) := by decide +kernel
theorem dX2_latestCome_3 : decode cX2_latestCome 3 = .ok (.istore_n 2, 1) := by decide +kernel
theorem dX2_latestCome_4 : decode cX2_latestCome 4 = .ok (.iload_n 2, 1) := by decide +kernel
theorem dX2_latestCome_5 : decode cX2_latestCome 5 = .ok (.ifCond .lt 21, 3) := by decide +kernel
theorem dX2_latestCome_8 : decode cX2_latestCome 8 = .ok (.aload_n 0, 1) := by decide +kernel
theorem dX2_latestCome_9 : decode cX2_latestCome 9 = .ok (.getfield 18, 3) := by decide +kernel
theorem dX2_latestCome_12 : decode cX2_latestCome 12 = .ok (.iload_n 2, 1) := by decide +kernel
theorem dX2_latestCome_13 : decode cX2_latestCome 13 = .ok (.iaload, 1) := by decide +kernel
theorem dX2_latestCome_14 : decode cX2_latestCome 14 = .ok (.iload_n 1, 1) := by decide +kernel
theorem dX2_latestCome_15 : decode cX2_latestCome 15 = .ok (.if_icmp .gt 5, 3) := by decide +kernel
theorem dX2_latestCome_18 : decode cX2_latestCome 18 = .ok (.iload_n 2, 1) := by decide +kernel
theorem dX2_latestCome_19 : decode cX2_latestCome 19 = .ok (.ireturn, 1) := by decide +kernel
theorem dX2_latestCome_20 : decode cX2_latestCome 20 = .ok (.iinc 2 (-1), 3) := by decide +kernel
theorem dX2_latestCome_23 : decode cX2_latestCome 23 = .ok (.goto (-19), 3) := by decide +kernel
theorem dX2_latestCome_26 : decode cX2_latestCome 26 = .ok (.bipush (-9), 2) := by decide +kernel
theorem dX2_latestCome_28 : decode cX2_latestCome 28 = .ok (.ireturn, 1) := by decide +kernel
theorem dX3_init_0 : decode cX3_init 0 = .ok (.aload_n 0, 1) := by decide +kernel
theorem dX3_init_1 : decode cX3_init 1 = .ok (.invokespecial 3, 3) := by decide +kernel
theorem dX3_init_4 : decode cX3_init 4 = .ok (.aload_n 0, 1) := by decide +kernel
theorem dX3_init_5 : decode cX3_init 5 = .ok (.bipush 6, 2) := by decide +kernel
theorem dX3_init_7 : decode cX3_init 7 = .ok (.newarray .int, 2) := by decide +kernel
theorem dX3_init_9 : decode cX3_init 9 = .ok (.putfield 9, 3) := by decide +kernel
theorem dX3_init_12 : decode cX3_init 12 = .ok (.aload_n 0, 1) := by decide +kernel
theorem dX3_init_13 : decode cX3_init 13 = .ok (.bipush 6, 2) := by decide +kernel
theorem dX3_init_15 : decode cX3_init 15 = .ok (.newarray .int, 2) := by decide +kernel
theorem dX3_init_17 : decode cX3_init 17 = .ok (.putfield 15, 3) := by decide +kernel
theorem dX3_init_20 : decode cX3_init 20 = .ok (.aload_n 0, 1) := by decide +kernel
theorem dX3_init_21 : decode cX3_init 21 = .ok (.sipush 200, 3) := by decide +kernel
theorem dX3_init_24 : decode cX3_init 24 = .ok (.newarray .int, 2) := by decide +kernel
theorem dX3_init_26 : decode cX3_init 26 = .ok (.putfield 18, 3) := by decide +kernel
theorem dX3_init_29 : decode cX3_init 29 = .ok (.aload_n 0, 1) := by decide +kernel
theorem dX3_init_30 : decode cX3_init 30 = .ok (.iconst 0, 1) := by decide +kernel
theorem dX3_init_31 : decode cX3_init 31 = .ok (.putfield 21, 3) := by decide +kernel
theorem dX3_init_34 : decode cX3_init 34 = .ok (.aload_n 0, 1) := by decide +kernel
theorem dX3_init_35 : decode cX3_init 35 = .ok (.bipush (-9), 2) := by decide +kernel
theorem dX3_init_37 : decode cX3_init 37 = .ok (.putfield 25, 3) := by decide +kernel
theorem dX3_init_40 : decode cX3_init 40 = .ok (.aload_n 0, 1) := by decide +kernel
theorem dX3_init_41 : decode cX3_init 41 = .ok (.iload_n 1, 1) := by decide +kernel
theorem dX3_init_42 : decode cX3_init 42 = .ok (.putfield 28, 3) := by decide +kernel
theorem dX3_init_45 : decode cX3_init 45 = .ok (.aload_n 0, 1) := by decide +kernel
theorem dX3_init_46 : decode cX3_init 46 = .ok (.iload_n 2, 1) := by decide +kernel
theorem dX3_init_47 : decode cX3_init 47 = .ok (.putfield 31, 3) := by decide +kernel
theorem dX3_init_50 : decode cX3_init 50 = .ok (.aload_n 0, 1) := by decide +kernel
theorem dX3_init_51 : decode cX3_init 51 = .ok (.iload_n 3, 1) := by decide +kernel
theorem dX3_init_52 : decode cX3_init 52 = .ok (.putfield 34, 3) := by decide +kernel
theorem dX3_init_55 : decode cX3_init 55 = .ok (.aload_n 0, 1) := by decide +kernel
theorem dX3_init_56 : decode cX3_init 56 = .ok (.iload 4, 2) := by decide +kernel
theorem dX3_init_58 : decode cX3_init 58 = .ok (.putfield 37, 3) := by decide +kernel
theorem dX3_init_61 : decode cX3_init 61 = .ok (.aload_n 0, 1) := by decide +kernel
theorem dX3_init_62 : decode cX3_init 62 = .ok (.iload 5, 2) := by decide +kernel
theorem dX3_init_64 : decode cX3_init 64 = .ok (.putfield 40, 3) := by decide +kernel
theorem dX3_init_67 : decode cX3_init 67 = .ok (.return_, 1) := by decide +kernel
theorem dX3_isLoaded_0 : decode cX3_isLoaded 0 = .ok (.aload_n 0, 1) := by decide +kernel
theorem dX3_isLoaded_1 : decode cX3_isLoaded 1 = .ok (.getfield 25, 3) := by decide +kernel
theorem dX3_isLoaded_4 : decode cX3_isLoaded 4 = .ok (.bipush (-9), 2) := by decide +kernel
theorem dX3_isLoaded_6 : decode cX3_isLoaded 6 = .ok (.if_icmp .eq 7, 3) := by decide +kernel
theorem dX3_isLoaded_9 : decode cX3_isLoaded 9 = .ok (.iconst 1, 1) := by decide +kernel
theorem dX3_isLoaded_10 : decode cX3_isLoaded 10 = .ok (.goto 4, 3) := by decide +kernel
theorem dX3_isLoaded_13 : decode cX3_isLoaded 13 = .ok (.iconst 0, 1) := by decide +kernel
theorem dX3_isLoaded_14 : decode cX3_isLoaded 14 = .ok (.ireturn, 1) := by decide +kernel
theorem dX3_isDry_0 : decode cX3_isDry 0 = .ok (.aload_n 0, 1) := by decide +kernel
theorem dX3_isDry_1 : decode cX3_isDry 1 = .ok (.invokevirtual 43, 3) := by decide +kernel
theorem dX3_isDry_4 : decode cX3_isDry 4 = .ok (.ifCond .ne 14, 3) := by decide +kernel
theorem dX3_isDry_7 : decode cX3_isDry 7 = .ok (.aload_n 0, 1) := by decide +kernel
theorem dX3_isDry_8 : decode cX3_isDry 8 = .ok (.getfield 40, 3) := by decide +kernel
theorem dX3_isDry_11 : decode cX3_isDry 11 = .ok (.ifCond .ne 7, 3) := by decide +kernel
theorem dX3_isDry_14 : decode cX3_isDry 14 = .ok (.iconst 1, 1) := by decide +kernel
theorem dX3_isDry_15 : decode cX3_isDry 15 = .ok (.goto 4, 3) := by decide +kernel
theorem dX3_isDry_18 : decode cX3_isDry 18 = .ok (.iconst 0, 1) := by decide +kernel
theorem dX3_isDry_19 : decode cX3_isDry 19 = .ok (.ireturn, 1) := by decide +kernel
theorem dX3_agreed_0 : decode cX3_agreed 0 = .ok (.aload_n 0, 1) := by decide +kernel
theorem dX3_agreed_1 : decode cX3_agreed 1 = .ok (.getfield 15, 3) := by decide +kernel
theorem dX3_agreed_4 : decode cX3_agreed 4 = .ok (.iload_n 1, 1) := by decide +kernel
theorem dX3_agreed_5 : decode cX3_agreed 5 = .ok (.iaload, 1) := by decide +kernel
theorem dX3_agreed_6 : decode cX3_agreed 6 = .ok (.iconst 1, 1) := by decide +kernel
theorem dX3_agreed_7 : decode cX3_agreed 7 = .ok (.if_icmp .ne 7, 3) := by decide +kernel
theorem dX3_agreed_10 : decode cX3_agreed 10 = .ok (.iconst 1, 1) := by decide +kernel
theorem dX3_agreed_11 : decode cX3_agreed 11 = .ok (.goto 4, 3) := by decide +kernel
theorem dX3_agreed_14 : decode cX3_agreed 14 = .ok (.iconst 0, 1) := by decide +kernel
theorem dX3_agreed_15 : decode cX3_agreed 15 = .ok (.ireturn, 1) := by decide +kernel
theorem dX3_turnOn_0 : decode cX3_turnOn 0 = .ok (.bipush 10, 2) := by decide +kernel
theorem dX3_turnOn_2 : decode cX3_turnOn 2 = .ok (.aload_n 0, 1) := by decide +kernel
theorem dX3_turnOn_3 : decode cX3_turnOn 3 = .ok (.getfield 34, 3) := by decide +kernel
theorem dX3_turnOn_6 : decode cX3_turnOn 6 = .ok (.imul, 1) := by decide +kernel
theorem dX3_turnOn_7 : decode cX3_turnOn 7 = .ok (.aload_n 0, 1) := by decide +kernel
theorem dX3_turnOn_8 : decode cX3_turnOn 8 = .ok (.getfield 28, 3) := by decide +kernel
theorem dX3_turnOn_11 : decode cX3_turnOn 11 = .ok (.iadd, 1) := by decide +kernel
theorem dX3_turnOn_12 : decode cX3_turnOn 12 = .ok (.istore_n 2, 1) := by decide +kernel
theorem dX3_turnOn_13 : decode cX3_turnOn 13 = .ok (.aload_n 0, 1) := by decide +kernel
theorem dX3_turnOn_14 : decode cX3_turnOn 14 = .ok (.getfield 31, 3) := by decide +kernel
theorem dX3_turnOn_17 : decode cX3_turnOn 17 = .ok (.ifCond .ne 5, 3) := by decide +kernel
theorem dX3_turnOn_20 : decode cX3_turnOn 20 = .ok (.iload_n 2, 1) := by decide +kernel
theorem dX3_turnOn_21 : decode cX3_turnOn 21 = .ok (.ireturn, 1) := by decide +kernel
theorem dX3_turnOn_22 : decode cX3_turnOn 22 = .ok (.iload_n 2, 1) := by decide +kernel
theorem dX3_turnOn_23 : decode cX3_turnOn 23 = .ok (.sipush 500, 3) := by decide +kernel
theorem dX3_turnOn_26 : decode cX3_turnOn 26 = .ok (.isub, 1) := by decide +kernel
theorem dX3_turnOn_27 : decode cX3_turnOn 27 = .ok (.istore_n 3, 1) := by decide +kernel
theorem dX3_turnOn_28 : decode cX3_turnOn 28 = .ok (.aload_n 0, 1) := by decide +kernel
theorem dX3_turnOn_29 : decode cX3_turnOn 29 = .ok (.getfield 31, 3) := by decide +kernel
theorem dX3_turnOn_32 : decode cX3_turnOn 32 = .ok (.iconst 1, 1) := by decide +kernel
theorem dX3_turnOn_33 : decode cX3_turnOn 33 = .ok (.if_icmp .eq 14, 3) := by decide +kernel
theorem dX3_turnOn_36 : decode cX3_turnOn 36 = .ok (.iload_n 1, 1) := by decide +kernel
theorem dX3_turnOn_37 : decode cX3_turnOn 37 = .ok (.aload_n 0, 1) := by decide +kernel
theorem dX3_turnOn_38 : decode cX3_turnOn 38 = .ok (.getfield 34, 3) := by decide +kernel
theorem dX3_turnOn_41 : decode cX3_turnOn 41 = .ok (.isub, 1) := by decide +kernel
theorem dX3_turnOn_42 : decode cX3_turnOn 42 = .ok (.bipush 9, 2) := by decide +kernel
theorem dX3_turnOn_44 : decode cX3_turnOn 44 = .ok (.if_icmp .lt 5, 3) := by decide +kernel
theorem dX3_turnOn_47 : decode cX3_turnOn 47 = .ok (.iload_n 3, 1) := by decide +kernel
theorem dX3_turnOn_48 : decode cX3_turnOn 48 = .ok (.ireturn, 1) := by decide +kernel
theorem dX3_turnOn_49 : decode cX3_turnOn 49 = .ok (.iload_n 3, 1) := by decide +kernel
theorem dX3_turnOn_50 : decode cX3_turnOn 50 = .ok (.sipush 5000, 3) := by decide +kernel
theorem dX3_turnOn_53 : decode cX3_turnOn 53 = .ok (.iadd, 1) := by decide +kernel
theorem dX3_turnOn_54 : decode cX3_turnOn 54 = .ok (.ireturn, 1) := by decide +kernel
theorem dX3_drink_0 : decode cX3_drink 0 = .ok (.aload_n 0, 1) := by decide +kernel
theorem dX3_drink_1 : decode cX3_drink 1 = .ok (.invokevirtual 43, 3) := by decide +kernel
theorem dX3_drink_4 : decode cX3_drink 4 = .ok (.ifCond .eq 4, 3) := by decide +kernel
theorem dX3_drink_7 : decode cX3_drink 7 = .ok (.return_, 1) := by decide +kernel
theorem dX3_drink_8 : decode cX3_drink 8 = .ok (.aload_n 0, 1) := by decide +kernel
theorem dX3_drink_9 : decode cX3_drink 9 = .ok (.iconst 0, 1) := by decide +kernel
theorem dX3_drink_10 : decode cX3_drink 10 = .ok (.aload_n 0, 1) := by decide +kernel
theorem dX3_drink_11 : decode cX3_drink 11 = .ok (.getfield 40, 3) := by decide +kernel
theorem dX3_drink_14 : decode cX3_drink 14 = .ok (.iconst 1, 1) := by decide +kernel
theorem dX3_drink_15 : decode cX3_drink 15 = .ok (.isub, 1) := by decide +kernel
theorem dX3_drink_16 : decode cX3_drink 16 = .ok (.invokestatic 47, 3) := by decide +kernel
theorem dX3_drink_19 : decode cX3_drink 19 = .ok (.putfield 40, 3) := by decide +kernel
theorem dX3_drink_22 : decode cX3_drink 22 = .ok (.aload_n 0, 1) := by decide +kernel
theorem dX3_drink_23 : decode cX3_drink 23 = .ok (.getfield 40, 3) := by decide +kernel
theorem dX3_drink_26 : decode cX3_drink 26 = .ok (.ifCond .ne 10, 3) := by decide +kernel
theorem dX3_drink_29 : decode cX3_drink 29 = .ok (.aload_n 0, 1) := by decide +kernel
theorem dX3_drink_30 : decode cX3_drink 30 = .ok (.getfield 18, 3) := by decide +kernel
theorem dX3_drink_33 : decode cX3_drink 33 = .ok (.iload_n 1, 1) := by decide +kernel
theorem dX3_drink_34 : decode cX3_drink 34 = .ok (.iconst (-1), 1) := by decide +kernel
theorem dX3_drink_35 : decode cX3_drink 35 = .ok (.iastore, 1) := by decide +kernel
theorem dX3_drink_36 : decode cX3_drink 36 = .ok (.return_, 1) := by decide +kernel
theorem dX3_take_0 : decode cX3_take 0 = .ok (.aload_n 0, 1) := by decide +kernel
theorem dX3_take_1 : decode cX3_take 1 = .ok (.dup, 1) := by decide +kernel
theorem dX3_take_2 : decode cX3_take 2 = .ok (.getfield 37, 3) := by decide +kernel
theorem dX3_take_5 : decode cX3_take 5 = .ok (.iload_n 1, 1) := by decide +kernel
theorem dX3_take_6 : decode cX3_take 6 = .ok (.isub, 1) := by decide +kernel
theorem dX3_take_7 : decode cX3_take 7 = .ok (.putfield 37, 3) := by decide +kernel
theorem dX3_take_10 : decode cX3_take 10 = .ok (.aload_n 0, 1) := by decide +kernel
theorem dX3_take_11 : decode cX3_take 11 = .ok (.dup, 1) := by decide +kernel
theorem dX3_take_12 : decode cX3_take 12 = .ok (.getfield 21, 3) := by decide +kernel
theorem dX3_take_15 : decode cX3_take 15 = .ok (.iload_n 1, 1) := by decide +kernel
theorem dX3_take_16 : decode cX3_take 16 = .ok (.iadd, 1) := by decide +kernel
theorem dX3_take_17 : decode cX3_take 17 = .ok (.putfield 21, 3) := by decide +kernel
theorem dX3_take_20 : decode cX3_take 20 = .ok (.aload_n 0, 1) := by decide +kernel
theorem dX3_take_21 : decode cX3_take 21 = .ok (.getfield 18, 3) := by decide +kernel
theorem dX3_take_24 : decode cX3_take 24 = .ok (.iload_n 2, 1) := by decide +kernel
theorem dX3_take_25 : decode cX3_take 25 = .ok (.iload_n 1, 1) := by decide +kernel
theorem dX3_take_26 : decode cX3_take 26 = .ok (.iastore, 1) := by decide +kernel
theorem dX3_take_27 : decode cX3_take 27 = .ok (.aload_n 0, 1) := by decide +kernel
theorem dX3_take_28 : decode cX3_take 28 = .ok (.getfield 37, 3) := by decide +kernel
theorem dX3_take_31 : decode cX3_take 31 = .ok (.ifCond .ne 8, 3) := by decide +kernel
theorem dX3_take_34 : decode cX3_take 34 = .ok (.aload_n 0, 1) := by decide +kernel
theorem dX3_take_35 : decode cX3_take 35 = .ok (.iload_n 2, 1) := by decide +kernel
theorem dX3_take_36 : decode cX3_take 36 = .ok (.putfield 25, 3) := by decide +kernel
theorem dX3_take_39 : decode cX3_take 39 = .ok (.return_, 1) := by decide +kernel
theorem dX4_init_0 : decode cX4_init 0 = .ok (.aload_n 0, 1) := by decide +kernel
theorem dX4_init_1 : decode cX4_init 1 = .ok (.invokespecial 1, 3) := by decide +kernel
theorem dX4_init_4 : decode cX4_init 4 = .ok (.aload_n 0, 1) := by decide +kernel
theorem dX4_init_5 : decode cX4_init 5 = .ok (.sipush 201, 3) := by decide +kernel
theorem dX4_init_8 : decode cX4_init 8 = .ok (.newarray .int, 2) := by decide +kernel
theorem dX4_init_10 : decode cX4_init 10 = .ok (.putfield 9, 3) := by decide +kernel
theorem dX4_init_13 : decode cX4_init 13 = .ok (.aload_n 0, 1) := by decide +kernel
theorem dX4_init_14 : decode cX4_init 14 = .ok (.new 13, 3) := by decide +kernel
theorem dX4_init_17 : decode cX4_init 17 = .ok (.dup, 1) := by decide +kernel
theorem dX4_init_18 : decode cX4_init 18 = .ok (.invokespecial 15, 3) := by decide +kernel
theorem dX4_init_21 : decode cX4_init 21 = .ok (.putfield 16, 3) := by decide +kernel
theorem dX4_init_24 : decode cX4_init 24 = .ok (.aload_n 0, 1) := by decide +kernel
theorem dX4_init_25 : decode cX4_init 25 = .ok (.bipush 10, 2) := by decide +kernel
theorem dX4_init_27 : decode cX4_init 27 = .ok (.anewarray 20, 3) := by decide +kernel
theorem dX4_init_30 : decode cX4_init 30 = .ok (.putfield 22, 3) := by decide +kernel
theorem dX4_init_33 : decode cX4_init 33 = .ok (.aload_n 0, 1) := by decide +kernel
theorem dX4_init_34 : decode cX4_init 34 = .ok (.bipush 10, 2) := by decide +kernel
theorem dX4_init_36 : decode cX4_init 36 = .ok (.anewarray 20, 3) := by decide +kernel
theorem dX4_init_39 : decode cX4_init 39 = .ok (.putfield 26, 3) := by decide +kernel
theorem dX4_init_42 : decode cX4_init 42 = .ok (.aload_n 0, 1) := by decide +kernel
theorem dX4_init_43 : decode cX4_init 43 = .ok (.new 29, 3) := by decide +kernel
theorem dX4_init_46 : decode cX4_init 46 = .ok (.dup, 1) := by decide +kernel
theorem dX4_init_47 : decode cX4_init 47 = .ok (.invokespecial 31, 3) := by decide +kernel
theorem dX4_init_50 : decode cX4_init 50 = .ok (.putfield 32, 3) := by decide +kernel
theorem dX4_init_53 : decode cX4_init 53 = .ok (.aload_n 0, 1) := by decide +kernel
theorem dX4_init_54 : decode cX4_init 54 = .ok (.new 36, 3) := by decide +kernel
theorem dX4_init_57 : decode cX4_init 57 = .ok (.dup, 1) := by decide +kernel
theorem dX4_init_58 : decode cX4_init 58 = .ok (.invokespecial 38, 3) := by decide +kernel
theorem dX4_init_61 : decode cX4_init 61 = .ok (.putfield 39, 3) := by decide +kernel
theorem dX4_init_64 : decode cX4_init 64 = .ok (.aload_n 0, 1) := by decide +kernel
theorem dX4_init_65 : decode cX4_init 65 = .ok (.iconst 0, 1) := by decide +kernel
theorem dX4_init_66 : decode cX4_init 66 = .ok (.putfield 43, 3) := by decide +kernel
theorem dX4_init_69 : decode cX4_init 69 = .ok (.aload_n 0, 1) := by decide +kernel
theorem dX4_init_70 : decode cX4_init 70 = .ok (.iconst 0, 1) := by decide +kernel
theorem dX4_init_71 : decode cX4_init 71 = .ok (.putfield 47, 3) := by decide +kernel
theorem dX4_init_74 : decode cX4_init 74 = .ok (.aload_n 0, 1) := by decide +kernel
theorem dX4_init_75 : decode cX4_init 75 = .ok (.bipush 20, 2) := by decide +kernel
theorem dX4_init_77 : decode cX4_init 77 = .ok (.putfield 50, 3) := by decide +kernel
theorem dX4_init_80 : decode cX4_init 80 = .ok (.aload_n 0, 1) := by decide +kernel
theorem dX4_init_81 : decode cX4_init 81 = .ok (.lconst 0, 1) := by decide +kernel
theorem dX4_init_82 : decode cX4_init 82 = .ok (.putfield 53, 3) := by decide +kernel
theorem dX4_init_85 : decode cX4_init 85 = .ok (.return_, 1) := by decide +kernel
theorem dX4_layer_0 : decode cX4_layer 0 = .ok (.iload_n 1, 1) := by decide +kernel
theorem dX4_layer_1 : decode cX4_layer 1 = .ok (.iconst 1, 1) := by decide +kernel
theorem dX4_layer_2 : decode cX4_layer 2 = .ok (.sipush 5000, 3) := by decide +kernel
theorem dX4_layer_5 : decode cX4_layer 5 = .ok (.invokestatic 57, 3) := by decide +kernel
theorem dX4_layer_8 : decode cX4_layer 8 = .ok (.ifCond .eq 13, 3) := by decide +kernel
theorem dX4_layer_11 : decode cX4_layer 11 = .ok (.iload_n 2, 1) := by decide +kernel
theorem dX4_layer_12 : decode cX4_layer 12 = .ok (.iconst 1, 1) := by decide +kernel
theorem dX4_layer_13 : decode cX4_layer 13 = .ok (.bipush 100, 2) := by decide +kernel
theorem dX4_layer_15 : decode cX4_layer 15 = .ok (.invokestatic 57, 3) := by decide +kernel
theorem dX4_layer_18 : decode cX4_layer 18 = .ok (.ifCond .ne 5, 3) := by decide +kernel
theorem dX4_layer_21 : decode cX4_layer 21 = .ok (.iconst (-1), 1) := by decide +kernel
theorem dX4_layer_22 : decode cX4_layer 22 = .ok (.ireturn, 1) := by decide +kernel
theorem dX4_layer_23 : decode cX4_layer 23 = .ok (.aload_n 0, 1) := by decide +kernel
theorem dX4_layer_24 : decode cX4_layer 24 = .ok (.getfield 16, 3) := by decide +kernel
theorem dX4_layer_27 : decode cX4_layer 27 = .ok (.getfield 61, 3) := by decide +kernel
theorem dX4_layer_30 : decode cX4_layer 30 = .ok (.bipush 6, 2) := by decide +kernel
theorem dX4_layer_32 : decode cX4_layer 32 = .ok (.if_icmp .lt 6, 3) := by decide +kernel
theorem dX4_layer_35 : decode cX4_layer 35 = .ok (.bipush (-3), 2) := by decide +kernel
theorem dX4_layer_37 : decode cX4_layer 37 = .ok (.ireturn, 1) := by decide +kernel
theorem dX4_layer_38 : decode cX4_layer 38 = .ok (.aload_n 0, 1) := by decide +kernel
theorem dX4_layer_39 : decode cX4_layer 39 = .ok (.getfield 16, 3) := by decide +kernel
theorem dX4_layer_42 : decode cX4_layer 42 = .ok (.iload_n 1, 1) := by decide +kernel
theorem dX4_layer_43 : decode cX4_layer 43 = .ok (.iload_n 2, 1) := by decide +kernel
theorem dX4_layer_44 : decode cX4_layer 44 = .ok (.invokevirtual 64, 3) := by decide +kernel
theorem dX4_layer_47 : decode cX4_layer 47 = .ok (.ireturn, 1) := by decide +kernel
theorem dX4_left_0 : decode cX4_left 0 = .ok (.aload_n 0, 1) := by decide +kernel
theorem dX4_left_1 : decode cX4_left 1 = .ok (.getfield 16, 3) := by decide +kernel
theorem dX4_left_4 : decode cX4_left 4 = .ok (.iload_n 1, 1) := by decide +kernel
theorem dX4_left_5 : decode cX4_left 5 = .ok (.invokevirtual 68, 3) := by decide +kernel
theorem dX4_left_8 : decode cX4_left 8 = .ok (.ifCond .eq 15, 3) := by decide +kernel
theorem dX4_left_11 : decode cX4_left 11 = .ok (.aload_n 0, 1) := by decide +kernel
theorem dX4_left_12 : decode cX4_left 12 = .ok (.getfield 16, 3) := by decide +kernel
theorem dX4_left_15 : decode cX4_left 15 = .ok (.getfield 72, 3) := by decide +kernel
theorem dX4_left_18 : decode cX4_left 18 = .ok (.iload_n 1, 1) := by decide +kernel
theorem dX4_left_19 : decode cX4_left 19 = .ok (.iaload, 1) := by decide +kernel
theorem dX4_left_20 : decode cX4_left 20 = .ok (.goto 4, 3) := by decide +kernel
theorem dX4_left_23 : decode cX4_left 23 = .ok (.iconst (-1), 1) := by decide +kernel
theorem dX4_left_24 : decode cX4_left 24 = .ok (.ireturn, 1) := by decide +kernel
theorem dX4_swell_0 : decode cX4_swell 0 = .ok (.iload_n 1, 1) := by decide +kernel
theorem dX4_swell_1 : decode cX4_swell 1 = .ok (.aload_n 0, 1) := by decide +kernel
theorem dX4_swell_2 : decode cX4_swell 2 = .ok (.getfield 43, 3) := by decide +kernel
theorem dX4_swell_5 : decode cX4_swell 5 = .ok (.sipush 200, 3) := by decide +kernel
theorem dX4_swell_8 : decode cX4_swell 8 = .ok (.invokestatic 57, 3) := by decide +kernel
theorem dX4_swell_11 : decode cX4_swell 11 = .ok (.ifCond .eq 13, 3) := by decide +kernel
theorem dX4_swell_14 : decode cX4_swell 14 = .ok (.iload_n 2, 1) := by decide +kernel
theorem dX4_swell_15 : decode cX4_swell 15 = .ok (.iconst 0, 1) := by decide +kernel
theorem dX4_swell_16 : decode cX4_swell 16 = .ok (.bipush 9, 2) := by decide +kernel
theorem dX4_swell_18 : decode cX4_swell 18 = .ok (.invokestatic 57, 3) := by decide +kernel
theorem dX4_swell_21 : decode cX4_swell 21 = .ok (.ifCond .ne 5, 3) := by decide +kernel
theorem dX4_swell_24 : decode cX4_swell 24 = .ok (.iconst (-1), 1) := by decide +kernel
theorem dX4_swell_25 : decode cX4_swell 25 = .ok (.ireturn, 1) := by decide +kernel
theorem dX4_swell_26 : decode cX4_swell 26 = .ok (.aload_n 0, 1) := by decide +kernel
theorem dX4_swell_27 : decode cX4_swell 27 = .ok (.getfield 9, 3) := by decide +kernel
theorem dX4_swell_30 : decode cX4_swell 30 = .ok (.iload_n 1, 1) := by decide +kernel
theorem dX4_swell_31 : decode cX4_swell 31 = .ok (.iaload, 1) := by decide +kernel
theorem dX4_swell_32 : decode cX4_swell 32 = .ok (.istore_n 3, 1) := by decide +kernel
theorem dX4_swell_33 : decode cX4_swell 33 = .ok (.aload_n 0, 1) := by decide +kernel
theorem dX4_swell_34 : decode cX4_swell 34 = .ok (.getfield 9, 3) := by decide +kernel
theorem dX4_swell_37 : decode cX4_swell 37 = .ok (.iload_n 1, 1) := by decide +kernel
theorem dX4_swell_38 : decode cX4_swell 38 = .ok (.iload_n 2, 1) := by decide +kernel
theorem dX4_swell_39 : decode cX4_swell 39 = .ok (.iastore, 1) := by decide +kernel
theorem dX4_swell_40 : decode cX4_swell 40 = .ok (.iload_n 3, 1) := by decide +kernel
theorem dX4_swell_41 : decode cX4_swell 41 = .ok (.ireturn, 1) := by decide +kernel
theorem dX4_ship_0 : decode cX4_ship 0 = .ok (.iload_n 1, 1) := by decide +kernel
theorem dX4_ship_1 : decode cX4_ship 1 = .ok (.iconst 0, 1) := by decide +kernel
theorem dX4_ship_2 : decode cX4_ship 2 = .ok (.iconst 2, 1) := by decide +kernel
theorem dX4_ship_3 : decode cX4_ship 3 = .ok (.invokestatic 57, 3) := by decide +kernel
theorem dX4_ship_6 : decode cX4_ship 6 = .ok (.ifCond .eq 24, 3) := by decide +kernel
theorem dX4_ship_9 : decode cX4_ship 9 = .ok (.iload_n 2, 1) := by decide +kernel
theorem dX4_ship_10 : decode cX4_ship 10 = .ok (.iconst 1, 1) := by decide +kernel
theorem dX4_ship_11 : decode cX4_ship 11 = .ok (.sipush 900, 3) := by decide +kernel
theorem dX4_ship_14 : decode cX4_ship 14 = .ok (.invokestatic 57, 3) := by decide +kernel
theorem dX4_ship_17 : decode cX4_ship 17 = .ok (.ifCond .eq 13, 3) := by decide +kernel
theorem dX4_ship_20 : decode cX4_ship 20 = .ok (.iload_n 3, 1) := by decide +kernel
theorem dX4_ship_21 : decode cX4_ship 21 = .ok (.iconst 1, 1) := by decide +kernel
theorem dX4_ship_22 : decode cX4_ship 22 = .ok (.bipush 90, 2) := by decide +kernel
theorem dX4_ship_24 : decode cX4_ship 24 = .ok (.invokestatic 57, 3) := by decide +kernel
theorem dX4_ship_27 : decode cX4_ship 27 = .ok (.ifCond .ne 5, 3) := by decide +kernel
theorem dX4_ship_30 : decode cX4_ship 30 = .ok (.iconst (-1), 1) := by decide +kernel
theorem dX4_ship_31 : decode cX4_ship 31 = .ok (.ireturn, 1) := by decide +kernel
theorem dX4_ship_32 : decode cX4_ship 32 = .ok (.aload_n 0, 1) := by decide +kernel
theorem dX4_ship_33 : decode cX4_ship 33 = .ok (.getfield 47, 3) := by decide +kernel
theorem dX4_ship_36 : decode cX4_ship 36 = .ok (.bipush 10, 2) := by decide +kernel
theorem dX4_ship_38 : decode cX4_ship 38 = .ok (.if_icmp .lt 6, 3) := by decide +kernel
theorem dX4_ship_41 : decode cX4_ship 41 = .ok (.bipush (-3), 2) := by decide +kernel
theorem dX4_ship_43 : decode cX4_ship 43 = .ok (.ireturn, 1) := by decide +kernel
theorem dX4_ship_44 : decode cX4_ship 44 = .ok (.aload_n 0, 1) := by decide +kernel
theorem dX4_ship_45 : decode cX4_ship 45 = .ok (.getfield 22, 3) := by decide +kernel
theorem dX4_ship_48 : decode cX4_ship 48 = .ok (.aload_n 0, 1) := by decide +kernel
theorem dX4_ship_49 : decode cX4_ship 49 = .ok (.getfield 47, 3) := by decide +kernel
theorem dX4_ship_52 : decode cX4_ship 52 = .ok (.new 20, 3) := by decide +kernel
theorem dX4_ship_55 : decode cX4_ship 55 = .ok (.dup, 1) := by decide +kernel
theorem dX4_ship_56 : decode cX4_ship 56 = .ok (.aload_n 0, 1) := by decide +kernel
theorem dX4_ship_57 : decode cX4_ship 57 = .ok (.getfield 47, 3) := by decide +kernel
theorem dX4_ship_60 : decode cX4_ship 60 = .ok (.iload_n 1, 1) := by decide +kernel
theorem dX4_ship_61 : decode cX4_ship 61 = .ok (.aload_n 0, 1) := by decide +kernel
theorem dX4_ship_62 : decode cX4_ship 62 = .ok (.getfield 43, 3) := by decide +kernel
theorem dX4_ship_65 : decode cX4_ship 65 = .ok (.iload_n 2, 1) := by decide +kernel
theorem dX4_ship_66 : decode cX4_ship 66 = .ok (.iload_n 3, 1) := by decide +kernel
theorem dX4_ship_67 : decode cX4_ship 67 = .ok (.invokespecial 75, 3) := by decide +kernel
theorem dX4_ship_70 : decode cX4_ship 70 = .ok (.aastore, 1) := by decide +kernel
theorem dX4_ship_71 : decode cX4_ship 71 = .ok (.aload_n 0, 1) := by decide +kernel
theorem dX4_ship_72 : decode cX4_ship 72 = .ok (.dup, 1) := by decide +kernel
theorem dX4_ship_73 : decode cX4_ship 73 = .ok (.getfield 47, 3) := by decide +kernel
theorem dX4_ship_76 : decode cX4_ship 76 = .ok (.iconst 1, 1) := by decide +kernel
theorem dX4_ship_77 : decode cX4_ship 77 = .ok (.iadd, 1) := by decide +kernel
theorem dX4_ship_78 : decode cX4_ship 78 = .ok (.putfield 47, 3) := by decide +kernel
theorem dX4_ship_81 : decode cX4_ship 81 = .ok (.aload_n 0, 1) := by decide +kernel
theorem dX4_ship_82 : decode cX4_ship 82 = .ok (.getfield 47, 3) := by decide +kernel
theorem dX4_ship_85 : decode cX4_ship 85 = .ok (.iconst 1, 1) := by decide +kernel
theorem dX4_ship_86 : decode cX4_ship 86 = .ok (.isub, 1) := by decide +kernel
theorem dX4_ship_87 : decode cX4_ship 87 = .ok (.ireturn, 1) := by decide +kernel
theorem dX4_turn_0 : decode cX4_turn 0 = .ok (.aload_n 0, 1) := by decide +kernel
theorem dX4_turn_1 : decode cX4_turn 1 = .ok (.iload_n 1, 1) := by decide +kernel
theorem dX4_turn_2 : decode cX4_turn 2 = .ok (.invokevirtual 78, 3) := by decide +kernel
theorem dX4_turn_5 : decode cX4_turn 5 = .ok (.astore_n 2, 1) := by decide +kernel
theorem dX4_turn_6 : decode cX4_turn 6 = .ok (.aload_n 2, 1) := by decide +kernel
theorem dX4_turn_7 : decode cX4_turn 7 = .ok (.ifnonnull 5, 3) := by decide +kernel
theorem dX4_turn_10 : decode cX4_turn 10 = .ok (.iconst (-1), 1) := by decide +kernel
theorem dX4_turn_11 : decode cX4_turn 11 = .ok (.ireturn, 1) := by decide +kernel
theorem dX4_turn_12 : decode cX4_turn 12 = .ok (.aload_n 0, 1) := by decide +kernel
theorem dX4_turn_13 : decode cX4_turn 13 = .ok (.dup, 1) := by decide +kernel
theorem dX4_turn_14 : decode cX4_turn 14 = .ok (.getfield 53, 3) := by decide +kernel
theorem dX4_turn_17 : decode cX4_turn 17 = .ok (.getstatic 82, 3) := by decide +kernel
theorem dX4_turn_20 : decode cX4_turn 20 = .ok (.aload_n 2, 1) := by decide +kernel
theorem dX4_turn_21 : decode cX4_turn 21 = .ok (.getfield 85, 3) := by decide +kernel
theorem dX4_turn_24 : decode cX4_turn 24 = .ok (.iaload, 1) := by decide +kernel
theorem dX4_turn_25 : decode cX4_turn 25 = .ok (.i2l, 1) := by decide +kernel
theorem dX4_turn_26 : decode cX4_turn 26 = .ok (.ladd, 1) := by decide +kernel
theorem dX4_turn_27 : decode cX4_turn 27 = .ok (.putfield 53, 3) := by decide +kernel
theorem dX4_turn_30 : decode cX4_turn 30 = .ok (.aload_n 2, 1) := by decide +kernel
theorem dX4_turn_31 : decode cX4_turn 31 = .ok (.aload_n 0, 1) := by decide +kernel
theorem dX4_turn_32 : decode cX4_turn 32 = .ok (.getfield 43, 3) := by decide +kernel
theorem dX4_turn_35 : decode cX4_turn 35 = .ok (.invokevirtual 88, 3) := by decide +kernel
theorem dX4_turn_38 : decode cX4_turn 38 = .ok (.ireturn, 1) := by decide +kernel
theorem dX4_days_0 : decode cX4_days 0 = .ok (.iload_n 1, 1) := by decide +kernel
theorem dX4_days_1 : decode cX4_days 1 = .ok (.iconst 1, 1) := by decide +kernel
theorem dX4_days_2 : decode cX4_days 2 = .ok (.bipush 20, 2) := by decide +kernel
theorem dX4_days_4 : decode cX4_days 4 = .ok (.invokestatic 57, 3) := by decide +kernel
theorem dX4_days_7 : decode cX4_days 7 = .ok (.ifCond .ne 5, 3) := by decide +kernel
theorem dX4_days_10 : decode cX4_days 10 = .ok (.iconst (-1), 1) := by decide +kernel
theorem dX4_days_11 : decode cX4_days 11 = .ok (.ireturn, 1) := by decide +kernel
theorem dX4_days_12 : decode cX4_days 12 = .ok (.aload_n 0, 1) := by decide +kernel
theorem dX4_days_13 : decode cX4_days 13 = .ok (.getfield 43, 3) := by decide +kernel
theorem dX4_days_16 : decode cX4_days 16 = .ok (.iload_n 1, 1) := by decide +kernel
theorem dX4_days_17 : decode cX4_days 17 = .ok (.iadd, 1) := by decide +kernel
theorem dX4_days_18 : decode cX4_days 18 = .ok (.sipush 200, 3) := by decide +kernel
theorem dX4_days_21 : decode cX4_days 21 = .ok (.if_icmp .le 6, 3) := by decide +kernel
theorem dX4_days_24 : decode cX4_days 24 = .ok (.bipush (-2), 2) := by decide +kernel
theorem dX4_days_26 : decode cX4_days 26 = .ok (.ireturn, 1) := by decide +kernel
theorem dX4_days_27 : decode cX4_days 27 = .ok (.iconst 0, 1) := by decide +kernel
theorem dX4_days_28 : decode cX4_days 28 = .ok (.istore_n 2, 1) := by decide +kernel
theorem dX4_days_29 : decode cX4_days 29 = .ok (.iload_n 2, 1) := by decide +kernel
theorem dX4_days_30 : decode cX4_days 30 = .ok (.iload_n 1, 1) := by decide +kernel
theorem dX4_days_31 : decode cX4_days 31 = .ok (.if_icmp .ge 13, 3) := by decide +kernel
theorem dX4_days_34 : decode cX4_days 34 = .ok (.aload_n 0, 1) := by decide +kernel
theorem dX4_days_35 : decode cX4_days 35 = .ok (.invokevirtual 92, 3) := by decide +kernel
theorem dX4_days_38 : decode cX4_days 38 = .ok (.iinc 2 1, 3) := by decide +kernel
theorem dX4_days_41 : decode cX4_days 41 = .ok (.goto (-12), 3) := by decide +kernel
theorem dX4_days_44 : decode cX4_days 44 = .ok (.aload_n 0, 1) := by decide +kernel
theorem dX4_days_45 : decode cX4_days 45 = .ok (.getfield 43, 3) := by decide +kernel
theorem dX4_days_48 : decode cX4_days 48 = .ok (.ireturn, 1) := by decide +kernel
theorem dX4_about_0 : decode cX4_about 0 = .ok (.aload_n 0, 1) := by decide +kernel
theorem dX4_about_1 : decode cX4_about 1 = .ok (.iload_n 1, 1) := by decide +kernel
theorem dX4_about_2 : decode cX4_about 2 = .ok (.invokevirtual 78, 3) := by decide +kernel
theorem dX4_about_5 : decode cX4_about 5 = .ok (.astore_n 3, 1) := by decide +kernel
theorem dX4_about_6 : decode cX4_about 6 = .ok (.aload_n 3, 1) := by decide +kernel
theorem dX4_about_7 : decode cX4_about 7 = .ok (.ifnonnull 5, 3) := by decide +kernel
theorem dX4_about_10 : decode cX4_about 10 = .ok (.iconst (-1), 1) := by decide +kernel
theorem dX4_about_11 : decode cX4_about 11 = .ok (.ireturn, 1) := by decide +kernel
theorem dX4_about_12 : decode cX4_about 12 = .ok (.iload_n 2, 1) := by decide +kernel
theorem dX4_about_13 : decode cX4_about 13 = .ok (.tableswitch 85 0 6 #[43, 48, 53, 58, 63, 68, 73], 43) := by decide +kernel
theorem dX4_about_56 : decode cX4_about 56 = .ok (.aload_n 3, 1) := by decide +kernel
theorem dX4_about_57 : decode cX4_about 57 = .ok (.getfield 85, 3) := by decide +kernel
theorem dX4_about_60 : decode cX4_about 60 = .ok (.ireturn, 1) := by decide +kernel
theorem dX4_about_61 : decode cX4_about 61 = .ok (.aload_n 3, 1) := by decide +kernel
theorem dX4_about_62 : decode cX4_about 62 = .ok (.getfield 95, 3) := by decide +kernel
theorem dX4_about_65 : decode cX4_about 65 = .ok (.ireturn, 1) := by decide +kernel
theorem dX4_about_66 : decode cX4_about 66 = .ok (.aload_n 3, 1) := by decide +kernel
theorem dX4_about_67 : decode cX4_about 67 = .ok (.getfield 98, 3) := by decide +kernel
theorem dX4_about_70 : decode cX4_about 70 = .ok (.ireturn, 1) := by decide +kernel
theorem dX4_about_71 : decode cX4_about 71 = .ok (.aload_n 3, 1) := by decide +kernel
theorem dX4_about_72 : decode cX4_about 72 = .ok (.getfield 101, 3) := by decide +kernel
theorem dX4_about_75 : decode cX4_about 75 = .ok (.ireturn, 1) := by decide +kernel
theorem dX4_about_76 : decode cX4_about 76 = .ok (.aload_n 3, 1) := by decide +kernel
theorem dX4_about_77 : decode cX4_about 77 = .ok (.getfield 103, 3) := by decide +kernel
theorem dX4_about_80 : decode cX4_about 80 = .ok (.ireturn, 1) := by decide +kernel
theorem dX4_about_81 : decode cX4_about 81 = .ok (.aload_n 3, 1) := by decide +kernel
theorem dX4_about_82 : decode cX4_about 82 = .ok (.getfield 106, 3) := by decide +kernel
theorem dX4_about_85 : decode cX4_about 85 = .ok (.ireturn, 1) := by decide +kernel
theorem dX4_about_86 : decode cX4_about 86 = .ok (.aload_n 0, 1) := by decide +kernel
theorem dX4_about_87 : decode cX4_about 87 = .ok (.getfield 16, 3) := by decide +kernel
theorem dX4_about_90 : decode cX4_about 90 = .ok (.aload_n 3, 1) := by decide +kernel
theorem dX4_about_91 : decode cX4_about 91 = .ok (.getfield 109, 3) := by decide +kernel
theorem dX4_about_94 : decode cX4_about 94 = .ok (.invokevirtual 112, 3) := by decide +kernel
theorem dX4_about_97 : decode cX4_about 97 = .ok (.ireturn, 1) := by decide +kernel
theorem dX4_about_98 : decode cX4_about 98 = .ok (.iconst (-1), 1) := by decide +kernel
theorem dX4_about_99 : decode cX4_about 99 = .ok (.ireturn, 1) := by decide +kernel
theorem dX4_cargo_0 : decode cX4_cargo 0 = .ok (.aload_n 0, 1) := by decide +kernel
theorem dX4_cargo_1 : decode cX4_cargo 1 = .ok (.iload_n 1, 1) := by decide +kernel
theorem dX4_cargo_2 : decode cX4_cargo 2 = .ok (.invokevirtual 78, 3) := by decide +kernel
theorem dX4_cargo_5 : decode cX4_cargo 5 = .ok (.astore_n 3, 1) := by decide +kernel
theorem dX4_cargo_6 : decode cX4_cargo 6 = .ok (.aload_n 3, 1) := by decide +kernel
theorem dX4_cargo_7 : decode cX4_cargo 7 = .ok (.ifnull 14, 3) := by decide +kernel
theorem dX4_cargo_10 : decode cX4_cargo 10 = .ok (.aload_n 0, 1) := by decide +kernel
theorem dX4_cargo_11 : decode cX4_cargo 11 = .ok (.getfield 16, 3) := by decide +kernel
theorem dX4_cargo_14 : decode cX4_cargo 14 = .ok (.iload_n 2, 1) := by decide +kernel
theorem dX4_cargo_15 : decode cX4_cargo 15 = .ok (.invokevirtual 68, 3) := by decide +kernel
theorem dX4_cargo_18 : decode cX4_cargo 18 = .ok (.ifCond .ne 5, 3) := by decide +kernel
theorem dX4_cargo_21 : decode cX4_cargo 21 = .ok (.iconst (-1), 1) := by decide +kernel
theorem dX4_cargo_22 : decode cX4_cargo 22 = .ok (.ireturn, 1) := by decide +kernel
theorem dX4_cargo_23 : decode cX4_cargo 23 = .ok (.aload_n 3, 1) := by decide +kernel
theorem dX4_cargo_24 : decode cX4_cargo 24 = .ok (.getfield 109, 3) := by decide +kernel
theorem dX4_cargo_27 : decode cX4_cargo 27 = .ok (.iload_n 2, 1) := by decide +kernel
theorem dX4_cargo_28 : decode cX4_cargo 28 = .ok (.iaload, 1) := by decide +kernel
theorem dX4_cargo_29 : decode cX4_cargo 29 = .ok (.ireturn, 1) := by decide +kernel
theorem dX4_loaded_0 : decode cX4_loaded 0 = .ok (.aload_n 0, 1) := by decide +kernel
theorem dX4_loaded_1 : decode cX4_loaded 1 = .ok (.iload_n 1, 1) := by decide +kernel
theorem dX4_loaded_2 : decode cX4_loaded 2 = .ok (.invokevirtual 78, 3) := by decide +kernel
theorem dX4_loaded_5 : decode cX4_loaded 5 = .ok (.astore_n 3, 1) := by decide +kernel
theorem dX4_loaded_6 : decode cX4_loaded 6 = .ok (.aload_n 3, 1) := by decide +kernel
theorem dX4_loaded_7 : decode cX4_loaded 7 = .ok (.ifnull 17, 3) := by decide +kernel
theorem dX4_loaded_10 : decode cX4_loaded 10 = .ok (.iload_n 2, 1) := by decide +kernel
theorem dX4_loaded_11 : decode cX4_loaded 11 = .ok (.iconst 0, 1) := by decide +kernel
theorem dX4_loaded_12 : decode cX4_loaded 12 = .ok (.aload_n 0, 1) := by decide +kernel
theorem dX4_loaded_13 : decode cX4_loaded 13 = .ok (.getfield 43, 3) := by decide +kernel
theorem dX4_loaded_16 : decode cX4_loaded 16 = .ok (.iconst 1, 1) := by decide +kernel
theorem dX4_loaded_17 : decode cX4_loaded 17 = .ok (.isub, 1) := by decide +kernel
theorem dX4_loaded_18 : decode cX4_loaded 18 = .ok (.invokestatic 57, 3) := by decide +kernel
theorem dX4_loaded_21 : decode cX4_loaded 21 = .ok (.ifCond .ne 6, 3) := by decide +kernel
theorem dX4_loaded_24 : decode cX4_loaded 24 = .ok (.bipush (-2), 2) := by decide +kernel
theorem dX4_loaded_26 : decode cX4_loaded 26 = .ok (.ireturn, 1) := by decide +kernel
theorem dX4_loaded_27 : decode cX4_loaded 27 = .ok (.aload_n 3, 1) := by decide +kernel
theorem dX4_loaded_28 : decode cX4_loaded 28 = .ok (.getfield 116, 3) := by decide +kernel
theorem dX4_loaded_31 : decode cX4_loaded 31 = .ok (.iload_n 2, 1) := by decide +kernel
theorem dX4_loaded_32 : decode cX4_loaded 32 = .ok (.iaload, 1) := by decide +kernel
theorem dX4_loaded_33 : decode cX4_loaded 33 = .ok (.ireturn, 1) := by decide +kernel
theorem dX4_boat_0 : decode cX4_boat 0 = .ok (.aload_n 0, 1) := by decide +kernel
theorem dX4_boat_1 : decode cX4_boat 1 = .ok (.iload_n 1, 1) := by decide +kernel
theorem dX4_boat_2 : decode cX4_boat 2 = .ok (.invokevirtual 78, 3) := by decide +kernel
theorem dX4_boat_5 : decode cX4_boat 5 = .ok (.astore_n 3, 1) := by decide +kernel
theorem dX4_boat_6 : decode cX4_boat 6 = .ok (.aload_n 3, 1) := by decide +kernel
theorem dX4_boat_7 : decode cX4_boat 7 = .ok (.ifnull 13, 3) := by decide +kernel
theorem dX4_boat_10 : decode cX4_boat 10 = .ok (.iload_n 2, 1) := by decide +kernel
theorem dX4_boat_11 : decode cX4_boat 11 = .ok (.iconst 1, 1) := by decide +kernel
theorem dX4_boat_12 : decode cX4_boat 12 = .ok (.bipush 90, 2) := by decide +kernel
theorem dX4_boat_14 : decode cX4_boat 14 = .ok (.invokestatic 57, 3) := by decide +kernel
theorem dX4_boat_17 : decode cX4_boat 17 = .ok (.ifCond .ne 5, 3) := by decide +kernel
theorem dX4_boat_20 : decode cX4_boat 20 = .ok (.iconst (-1), 1) := by decide +kernel
theorem dX4_boat_21 : decode cX4_boat 21 = .ok (.ireturn, 1) := by decide +kernel
theorem dX4_boat_22 : decode cX4_boat 22 = .ok (.aload_n 3, 1) := by decide +kernel
theorem dX4_boat_23 : decode cX4_boat 23 = .ok (.invokevirtual 119, 3) := by decide +kernel
theorem dX4_boat_26 : decode cX4_boat 26 = .ok (.ifCond .eq 6, 3) := by decide +kernel
theorem dX4_boat_29 : decode cX4_boat 29 = .ok (.bipush (-2), 2) := by decide +kernel
theorem dX4_boat_31 : decode cX4_boat 31 = .ok (.ireturn, 1) := by decide +kernel
theorem dX4_boat_32 : decode cX4_boat 32 = .ok (.aload_n 3, 1) := by decide +kernel
theorem dX4_boat_33 : decode cX4_boat 33 = .ok (.bipush 90, 2) := by decide +kernel
theorem dX4_boat_35 : decode cX4_boat 35 = .ok (.aload_n 3, 1) := by decide +kernel
theorem dX4_boat_36 : decode cX4_boat 36 = .ok (.getfield 103, 3) := by decide +kernel
theorem dX4_boat_39 : decode cX4_boat 39 = .ok (.iload_n 2, 1) := by decide +kernel
theorem dX4_boat_40 : decode cX4_boat 40 = .ok (.iadd, 1) := by decide +kernel
theorem dX4_boat_41 : decode cX4_boat 41 = .ok (.invokestatic 123, 3) := by decide +kernel
theorem dX4_boat_44 : decode cX4_boat 44 = .ok (.putfield 103, 3) := by decide +kernel
theorem dX4_boat_47 : decode cX4_boat 47 = .ok (.aload_n 3, 1) := by decide +kernel
theorem dX4_boat_48 : decode cX4_boat 48 = .ok (.getfield 103, 3) := by decide +kernel
theorem dX4_boat_51 : decode cX4_boat 51 = .ok (.ireturn, 1) := by decide +kernel
theorem dX4_sample_0 : decode cX4_sample 0 = .ok (.aload_n 0, 1) := by decide +kernel
theorem dX4_sample_1 : decode cX4_sample 1 = .ok (.iload_n 1, 1) := by decide +kernel
theorem dX4_sample_2 : decode cX4_sample 2 = .ok (.invokevirtual 78, 3) := by decide +kernel
theorem dX4_sample_5 : decode cX4_sample 5 = .ok (.astore_n 3, 1) := by decide +kernel
theorem dX4_sample_6 : decode cX4_sample 6 = .ok (.aload_n 3, 1) := by decide +kernel
theorem dX4_sample_7 : decode cX4_sample 7 = .ok (.ifnull 13, 3) := by decide +kernel
theorem dX4_sample_10 : decode cX4_sample 10 = .ok (.iload_n 2, 1) := by decide +kernel
theorem dX4_sample_11 : decode cX4_sample 11 = .ok (.iconst 1, 1) := by decide +kernel
theorem dX4_sample_12 : decode cX4_sample 12 = .ok (.bipush 9, 2) := by decide +kernel
theorem dX4_sample_14 : decode cX4_sample 14 = .ok (.invokestatic 57, 3) := by decide +kernel
theorem dX4_sample_17 : decode cX4_sample 17 = .ok (.ifCond .ne 5, 3) := by decide +kernel
theorem dX4_sample_20 : decode cX4_sample 20 = .ok (.iconst (-1), 1) := by decide +kernel
theorem dX4_sample_21 : decode cX4_sample 21 = .ok (.ireturn, 1) := by decide +kernel
theorem dX4_sample_22 : decode cX4_sample 22 = .ok (.aload_n 0, 1) := by decide +kernel
theorem dX4_sample_23 : decode cX4_sample 23 = .ok (.getfield 16, 3) := by decide +kernel
theorem dX4_sample_26 : decode cX4_sample 26 = .ok (.aload_n 3, 1) := by decide +kernel
theorem dX4_sample_27 : decode cX4_sample 27 = .ok (.getfield 109, 3) := by decide +kernel
theorem dX4_sample_30 : decode cX4_sample 30 = .ok (.iload_n 2, 1) := by decide +kernel
theorem dX4_sample_31 : decode cX4_sample 31 = .ok (.invokevirtual 128, 3) := by decide +kernel
theorem dX4_sample_34 : decode cX4_sample 34 = .ok (.ireturn, 1) := by decide +kernel
theorem dX4_type_0 : decode cX4_type 0 = .ok (.iload_n 3, 1) := by decide +kernel
theorem dX4_type_1 : decode cX4_type 1 = .ok (.iconst 1, 1) := by decide +kernel
theorem dX4_type_2 : decode cX4_type 2 = .ok (.bipush 8, 2) := by decide +kernel
theorem dX4_type_4 : decode cX4_type 4 = .ok (.invokestatic 57, 3) := by decide +kernel
theorem dX4_type_7 : decode cX4_type 7 = .ok (.ifCond .ne 5, 3) := by decide +kernel
theorem dX4_type_10 : decode cX4_type 10 = .ok (.iconst (-1), 1) := by decide +kernel
theorem dX4_type_11 : decode cX4_type 11 = .ok (.ireturn, 1) := by decide +kernel
theorem dX4_type_12 : decode cX4_type 12 = .ok (.aload_n 0, 1) := by decide +kernel
theorem dX4_type_13 : decode cX4_type 13 = .ok (.getfield 32, 3) := by decide +kernel
theorem dX4_type_16 : decode cX4_type 16 = .ok (.getfield 132, 3) := by decide +kernel
theorem dX4_type_19 : decode cX4_type 19 = .ok (.iload_n 3, 1) := by decide +kernel
theorem dX4_type_20 : decode cX4_type 20 = .ok (.iadd, 1) := by decide +kernel
theorem dX4_type_21 : decode cX4_type 21 = .ok (.bipush 30, 2) := by decide +kernel
theorem dX4_type_23 : decode cX4_type 23 = .ok (.if_icmp .le 6, 3) := by decide +kernel
theorem dX4_type_26 : decode cX4_type 26 = .ok (.bipush (-3), 2) := by decide +kernel
theorem dX4_type_28 : decode cX4_type 28 = .ok (.ireturn, 1) := by decide +kernel
theorem dX4_type_29 : decode cX4_type 29 = .ok (.aload_n 0, 1) := by decide +kernel
theorem dX4_type_30 : decode cX4_type 30 = .ok (.getfield 32, 3) := by decide +kernel
theorem dX4_type_33 : decode cX4_type 33 = .ok (.lload_n 1, 1) := by decide +kernel
theorem dX4_type_34 : decode cX4_type 34 = .ok (.iload_n 3, 1) := by decide +kernel
theorem dX4_type_35 : decode cX4_type 35 = .ok (.invokevirtual 135, 3) := by decide +kernel
theorem dX4_type_38 : decode cX4_type 38 = .ok (.aload_n 0, 1) := by decide +kernel
theorem dX4_type_39 : decode cX4_type 39 = .ok (.getfield 32, 3) := by decide +kernel
theorem dX4_type_42 : decode cX4_type 42 = .ok (.getfield 132, 3) := by decide +kernel
theorem dX4_type_45 : decode cX4_type 45 = .ok (.ireturn, 1) := by decide +kernel
theorem dX4_clear_0 : decode cX4_clear 0 = .ok (.aload_n 0, 1) := by decide +kernel
theorem dX4_clear_1 : decode cX4_clear 1 = .ok (.getfield 32, 3) := by decide +kernel
theorem dX4_clear_4 : decode cX4_clear 4 = .ok (.getfield 132, 3) := by decide +kernel
theorem dX4_clear_7 : decode cX4_clear 7 = .ok (.istore_n 1, 1) := by decide +kernel
theorem dX4_clear_8 : decode cX4_clear 8 = .ok (.aload_n 0, 1) := by decide +kernel
theorem dX4_clear_9 : decode cX4_clear 9 = .ok (.getfield 32, 3) := by decide +kernel
theorem dX4_clear_12 : decode cX4_clear 12 = .ok (.iconst 0, 1) := by decide +kernel
theorem dX4_clear_13 : decode cX4_clear 13 = .ok (.putfield 132, 3) := by decide +kernel
theorem dX4_clear_16 : decode cX4_clear 16 = .ok (.iload_n 1, 1) := by decide +kernel
theorem dX4_clear_17 : decode cX4_clear 17 = .ok (.ireturn, 1) := by decide +kernel
theorem dX4_charter_0 : decode cX4_charter 0 = .ok (.aload_n 0, 1) := by decide +kernel
theorem dX4_charter_1 : decode cX4_charter 1 = .ok (.iload_n 1, 1) := by decide +kernel
theorem dX4_charter_2 : decode cX4_charter 2 = .ok (.invokevirtual 78, 3) := by decide +kernel
theorem dX4_charter_5 : decode cX4_charter 5 = .ok (.astore_n 2, 1) := by decide +kernel
theorem dX4_charter_6 : decode cX4_charter 6 = .ok (.aload_n 2, 1) := by decide +kernel
theorem dX4_charter_7 : decode cX4_charter 7 = .ok (.ifnonnull 5, 3) := by decide +kernel
theorem dX4_charter_10 : decode cX4_charter 10 = .ok (.iconst (-1), 1) := by decide +kernel
theorem dX4_charter_11 : decode cX4_charter 11 = .ok (.ireturn, 1) := by decide +kernel
theorem dX4_charter_12 : decode cX4_charter 12 = .ok (.aload_n 0, 1) := by decide +kernel
theorem dX4_charter_13 : decode cX4_charter 13 = .ok (.getfield 32, 3) := by decide +kernel
theorem dX4_charter_16 : decode cX4_charter 16 = .ok (.getfield 132, 3) := by decide +kernel
theorem dX4_charter_19 : decode cX4_charter 19 = .ok (.ifCond .ne 6, 3) := by decide +kernel
theorem dX4_charter_22 : decode cX4_charter 22 = .ok (.bipush (-2), 2) := by decide +kernel
theorem dX4_charter_24 : decode cX4_charter 24 = .ok (.ireturn, 1) := by decide +kernel
theorem dX4_charter_25 : decode cX4_charter 25 = .ok (.aload_n 0, 1) := by decide +kernel
theorem dX4_charter_26 : decode cX4_charter 26 = .ok (.getfield 32, 3) := by decide +kernel
theorem dX4_charter_29 : decode cX4_charter 29 = .ok (.invokevirtual 139, 3) := by decide +kernel
theorem dX4_charter_32 : decode cX4_charter 32 = .ok (.istore_n 3, 1) := by decide +kernel
theorem dX4_charter_33 : decode cX4_charter 33 = .ok (.iload_n 3, 1) := by decide +kernel
theorem dX4_charter_34 : decode cX4_charter 34 = .ok (.iconst (-1), 1) := by decide +kernel
theorem dX4_charter_35 : decode cX4_charter 35 = .ok (.if_icmp .eq 8, 3) := by decide +kernel
theorem dX4_charter_38 : decode cX4_charter 38 = .ok (.bipush (-100), 2) := by decide +kernel
theorem dX4_charter_40 : decode cX4_charter 40 = .ok (.iload_n 3, 1) := by decide +kernel
theorem dX4_charter_41 : decode cX4_charter 41 = .ok (.isub, 1) := by decide +kernel
theorem dX4_charter_42 : decode cX4_charter 42 = .ok (.ireturn, 1) := by decide +kernel
theorem dX4_charter_43 : decode cX4_charter 43 = .ok (.aload_n 0, 1) := by decide +kernel
theorem dX4_charter_44 : decode cX4_charter 44 = .ok (.getfield 32, 3) := by decide +kernel
theorem dX4_charter_47 : decode cX4_charter 47 = .ok (.getfield 143, 3) := by decide +kernel
theorem dX4_charter_50 : decode cX4_charter 50 = .ok (.iconst 0, 1) := by decide +kernel
theorem dX4_charter_51 : decode cX4_charter 51 = .ok (.aload_n 2, 1) := by decide +kernel
theorem dX4_charter_52 : decode cX4_charter 52 = .ok (.getfield 146, 3) := by decide +kernel
theorem dX4_charter_55 : decode cX4_charter 55 = .ok (.iconst 0, 1) := by decide +kernel
theorem dX4_charter_56 : decode cX4_charter 56 = .ok (.bipush 6, 2) := by decide +kernel
theorem dX4_charter_58 : decode cX4_charter 58 = .ok (.invokestatic 147, 3) := by decide +kernel
theorem dX4_charter_61 : decode cX4_charter 61 = .ok (.aload_n 0, 1) := by decide +kernel
theorem dX4_charter_62 : decode cX4_charter 62 = .ok (.getfield 32, 3) := by decide +kernel
theorem dX4_charter_65 : decode cX4_charter 65 = .ok (.iconst 0, 1) := by decide +kernel
theorem dX4_charter_66 : decode cX4_charter 66 = .ok (.putfield 132, 3) := by decide +kernel
theorem dX4_charter_69 : decode cX4_charter 69 = .ok (.iconst 1, 1) := by decide +kernel
theorem dX4_charter_70 : decode cX4_charter 70 = .ok (.ireturn, 1) := by decide +kernel
theorem dX4_term_0 : decode cX4_term 0 = .ok (.aload_n 0, 1) := by decide +kernel
theorem dX4_term_1 : decode cX4_term 1 = .ok (.iload_n 1, 1) := by decide +kernel
theorem dX4_term_2 : decode cX4_term 2 = .ok (.invokevirtual 78, 3) := by decide +kernel
theorem dX4_term_5 : decode cX4_term 5 = .ok (.astore_n 3, 1) := by decide +kernel
theorem dX4_term_6 : decode cX4_term 6 = .ok (.aload_n 3, 1) := by decide +kernel
theorem dX4_term_7 : decode cX4_term 7 = .ok (.ifnull 12, 3) := by decide +kernel
theorem dX4_term_10 : decode cX4_term 10 = .ok (.iload_n 2, 1) := by decide +kernel
theorem dX4_term_11 : decode cX4_term 11 = .ok (.iconst 0, 1) := by decide +kernel
theorem dX4_term_12 : decode cX4_term 12 = .ok (.iconst 5, 1) := by decide +kernel
theorem dX4_term_13 : decode cX4_term 13 = .ok (.invokestatic 57, 3) := by decide +kernel
theorem dX4_term_16 : decode cX4_term 16 = .ok (.ifCond .ne 5, 3) := by decide +kernel
theorem dX4_term_19 : decode cX4_term 19 = .ok (.iconst (-1), 1) := by decide +kernel
theorem dX4_term_20 : decode cX4_term 20 = .ok (.ireturn, 1) := by decide +kernel
theorem dX4_term_21 : decode cX4_term 21 = .ok (.aload_n 3, 1) := by decide +kernel
theorem dX4_term_22 : decode cX4_term 22 = .ok (.getfield 146, 3) := by decide +kernel
theorem dX4_term_25 : decode cX4_term 25 = .ok (.iload_n 2, 1) := by decide +kernel
theorem dX4_term_26 : decode cX4_term 26 = .ok (.iaload, 1) := by decide +kernel
theorem dX4_term_27 : decode cX4_term 27 = .ok (.ireturn, 1) := by decide +kernel
theorem dX4_owed_0 : decode cX4_owed 0 = .ok (.aload_n 0, 1) := by decide +kernel
theorem dX4_owed_1 : decode cX4_owed 1 = .ok (.iload_n 1, 1) := by decide +kernel
theorem dX4_owed_2 : decode cX4_owed 2 = .ok (.invokevirtual 78, 3) := by decide +kernel
theorem dX4_owed_5 : decode cX4_owed 5 = .ok (.astore_n 3, 1) := by decide +kernel
theorem dX4_owed_6 : decode cX4_owed 6 = .ok (.aload_n 3, 1) := by decide +kernel
theorem dX4_owed_7 : decode cX4_owed 7 = .ok (.ifnull 12, 3) := by decide +kernel
theorem dX4_owed_10 : decode cX4_owed 10 = .ok (.iload_n 2, 1) := by decide +kernel
theorem dX4_owed_11 : decode cX4_owed 11 = .ok (.iconst 0, 1) := by decide +kernel
theorem dX4_owed_12 : decode cX4_owed 12 = .ok (.iconst 1, 1) := by decide +kernel
theorem dX4_owed_13 : decode cX4_owed 13 = .ok (.invokestatic 57, 3) := by decide +kernel
theorem dX4_owed_16 : decode cX4_owed 16 = .ok (.ifCond .ne 6, 3) := by decide +kernel
theorem dX4_owed_19 : decode cX4_owed 19 = .ok (.ldc 153, 2) := by decide +kernel
theorem dX4_owed_21 : decode cX4_owed 21 = .ok (.ireturn, 1) := by decide +kernel
theorem dX4_owed_22 : decode cX4_owed 22 = .ok (.iload_n 2, 1) := by decide +kernel
theorem dX4_owed_23 : decode cX4_owed 23 = .ok (.ifCond .ne 11, 3) := by decide +kernel
theorem dX4_owed_26 : decode cX4_owed 26 = .ok (.aload_n 0, 1) := by decide +kernel
theorem dX4_owed_27 : decode cX4_owed 27 = .ok (.aload_n 3, 1) := by decide +kernel
theorem dX4_owed_28 : decode cX4_owed 28 = .ok (.invokevirtual 154, 3) := by decide +kernel
theorem dX4_owed_31 : decode cX4_owed 31 = .ok (.goto 8, 3) := by decide +kernel
theorem dX4_owed_34 : decode cX4_owed 34 = .ok (.aload_n 0, 1) := by decide +kernel
theorem dX4_owed_35 : decode cX4_owed 35 = .ok (.aload_n 3, 1) := by decide +kernel
theorem dX4_owed_36 : decode cX4_owed 36 = .ok (.invokevirtual 158, 3) := by decide +kernel
theorem dX4_owed_39 : decode cX4_owed 39 = .ok (.ireturn, 1) := by decide +kernel
theorem dX4_shared_0 : decode cX4_shared 0 = .ok (.aload_n 0, 1) := by decide +kernel
theorem dX4_shared_1 : decode cX4_shared 1 = .ok (.iload_n 1, 1) := by decide +kernel
theorem dX4_shared_2 : decode cX4_shared 2 = .ok (.invokevirtual 78, 3) := by decide +kernel
theorem dX4_shared_5 : decode cX4_shared 5 = .ok (.astore_n 3, 1) := by decide +kernel
theorem dX4_shared_6 : decode cX4_shared 6 = .ok (.aload_n 3, 1) := by decide +kernel
theorem dX4_shared_7 : decode cX4_shared 7 = .ok (.ifnull 12, 3) := by decide +kernel
theorem dX4_shared_10 : decode cX4_shared 10 = .ok (.iload_n 2, 1) := by decide +kernel
theorem dX4_shared_11 : decode cX4_shared 11 = .ok (.iconst 0, 1) := by decide +kernel
theorem dX4_shared_12 : decode cX4_shared 12 = .ok (.iconst 2, 1) := by decide +kernel
theorem dX4_shared_13 : decode cX4_shared 13 = .ok (.invokestatic 57, 3) := by decide +kernel
theorem dX4_shared_16 : decode cX4_shared 16 = .ok (.ifCond .ne 5, 3) := by decide +kernel
theorem dX4_shared_19 : decode cX4_shared 19 = .ok (.iconst (-1), 1) := by decide +kernel
theorem dX4_shared_20 : decode cX4_shared 20 = .ok (.ireturn, 1) := by decide +kernel
theorem dX4_shared_21 : decode cX4_shared 21 = .ok (.iconst 0, 1) := by decide +kernel
theorem dX4_shared_22 : decode cX4_shared 22 = .ok (.istore 4, 2) := by decide +kernel
theorem dX4_shared_24 : decode cX4_shared 24 = .ok (.iconst 0, 1) := by decide +kernel
theorem dX4_shared_25 : decode cX4_shared 25 = .ok (.istore 5, 2) := by decide +kernel
theorem dX4_shared_27 : decode cX4_shared 27 = .ok (.aload_n 3, 1) := by decide +kernel
theorem dX4_shared_28 : decode cX4_shared 28 = .ok (.getfield 95, 3) := by decide +kernel
theorem dX4_shared_31 : decode cX4_shared 31 = .ok (.istore 6, 2) := by decide +kernel
theorem dX4_shared_33 : decode cX4_shared 33 = .ok (.iload 6, 2) := by decide +kernel
theorem dX4_shared_35 : decode cX4_shared 35 = .ok (.aload_n 0, 1) := by decide +kernel
theorem dX4_shared_36 : decode cX4_shared 36 = .ok (.aload_n 3, 1) := by decide +kernel
theorem dX4_shared_37 : decode cX4_shared 37 = .ok (.invokevirtual 161, 3) := by decide +kernel
theorem dX4_shared_40 : decode cX4_shared 40 = .ok (.if_icmp .gt 47, 3) := by decide +kernel
theorem dX4_shared_43 : decode cX4_shared 43 = .ok (.aload_n 0, 1) := by decide +kernel
theorem dX4_shared_44 : decode cX4_shared 44 = .ok (.aload_n 3, 1) := by decide +kernel
theorem dX4_shared_45 : decode cX4_shared 45 = .ok (.iload 6, 2) := by decide +kernel
theorem dX4_shared_47 : decode cX4_shared 47 = .ok (.invokevirtual 164, 3) := by decide +kernel
theorem dX4_shared_50 : decode cX4_shared 50 = .ok (.ifCond .eq 31, 3) := by decide +kernel
theorem dX4_shared_53 : decode cX4_shared 53 = .ok (.iinc 4 1, 3) := by decide +kernel
theorem dX4_shared_56 : decode cX4_shared 56 = .ok (.iload 4, 2) := by decide +kernel
theorem dX4_shared_58 : decode cX4_shared 58 = .ok (.aload_n 3, 1) := by decide +kernel
theorem dX4_shared_59 : decode cX4_shared 59 = .ok (.getfield 146, 3) := by decide +kernel
theorem dX4_shared_62 : decode cX4_shared 62 = .ok (.iconst 0, 1) := by decide +kernel
theorem dX4_shared_63 : decode cX4_shared 63 = .ok (.iaload, 1) := by decide +kernel
theorem dX4_shared_64 : decode cX4_shared 64 = .ok (.if_icmp .le 17, 3) := by decide +kernel
theorem dX4_shared_67 : decode cX4_shared 67 = .ok (.aload_n 0, 1) := by decide +kernel
theorem dX4_shared_68 : decode cX4_shared 68 = .ok (.aload_n 3, 1) := by decide +kernel
theorem dX4_shared_69 : decode cX4_shared 69 = .ok (.iload 6, 2) := by decide +kernel
theorem dX4_shared_71 : decode cX4_shared 71 = .ok (.invokevirtual 168, 3) := by decide +kernel
theorem dX4_shared_74 : decode cX4_shared 74 = .ok (.iload_n 2, 1) := by decide +kernel
theorem dX4_shared_75 : decode cX4_shared 75 = .ok (.if_icmp .ne 6, 3) := by decide +kernel
theorem dX4_shared_78 : decode cX4_shared 78 = .ok (.iinc 5 1, 3) := by decide +kernel
theorem dX4_shared_81 : decode cX4_shared 81 = .ok (.iinc 6 1, 3) := by decide +kernel
theorem dX4_shared_84 : decode cX4_shared 84 = .ok (.goto (-51), 3) := by decide +kernel
theorem dX4_shared_87 : decode cX4_shared 87 = .ok (.iload 5, 2) := by decide +kernel
theorem dX4_shared_89 : decode cX4_shared 89 = .ok (.ireturn, 1) := by decide +kernel
theorem dX4_delay_0 : decode cX4_delay 0 = .ok (.iload_n 1, 1) := by decide +kernel
theorem dX4_delay_1 : decode cX4_delay 1 = .ok (.iconst 0, 1) := by decide +kernel
theorem dX4_delay_2 : decode cX4_delay 2 = .ok (.bipush 60, 2) := by decide +kernel
theorem dX4_delay_4 : decode cX4_delay 4 = .ok (.invokestatic 57, 3) := by decide +kernel
theorem dX4_delay_7 : decode cX4_delay 7 = .ok (.ifCond .ne 5, 3) := by decide +kernel
theorem dX4_delay_10 : decode cX4_delay 10 = .ok (.iconst (-1), 1) := by decide +kernel
theorem dX4_delay_11 : decode cX4_delay 11 = .ok (.ireturn, 1) := by decide +kernel
theorem dX4_delay_12 : decode cX4_delay 12 = .ok (.aload_n 0, 1) := by decide +kernel
theorem dX4_delay_13 : decode cX4_delay 13 = .ok (.getfield 50, 3) := by decide +kernel
theorem dX4_delay_16 : decode cX4_delay 16 = .ok (.istore_n 2, 1) := by decide +kernel
theorem dX4_delay_17 : decode cX4_delay 17 = .ok (.aload_n 0, 1) := by decide +kernel
theorem dX4_delay_18 : decode cX4_delay 18 = .ok (.iload_n 1, 1) := by decide +kernel
theorem dX4_delay_19 : decode cX4_delay 19 = .ok (.putfield 50, 3) := by decide +kernel
theorem dX4_delay_22 : decode cX4_delay 22 = .ok (.iload_n 2, 1) := by decide +kernel
theorem dX4_delay_23 : decode cX4_delay 23 = .ok (.ireturn, 1) := by decide +kernel
theorem dX4_letter_0 : decode cX4_letter 0 = .ok (.iload_n 1, 1) := by decide +kernel
theorem dX4_letter_1 : decode cX4_letter 1 = .ok (.iconst 0, 1) := by decide +kernel
theorem dX4_letter_2 : decode cX4_letter 2 = .ok (.sipush 200, 3) := by decide +kernel
theorem dX4_letter_5 : decode cX4_letter 5 = .ok (.invokestatic 57, 3) := by decide +kernel
theorem dX4_letter_8 : decode cX4_letter 8 = .ok (.ifCond .eq 12, 3) := by decide +kernel
theorem dX4_letter_11 : decode cX4_letter 11 = .ok (.iload_n 2, 1) := by decide +kernel
theorem dX4_letter_12 : decode cX4_letter 12 = .ok (.iconst 0, 1) := by decide +kernel
theorem dX4_letter_13 : decode cX4_letter 13 = .ok (.iconst 2, 1) := by decide +kernel
theorem dX4_letter_14 : decode cX4_letter 14 = .ok (.invokestatic 57, 3) := by decide +kernel
theorem dX4_letter_17 : decode cX4_letter 17 = .ok (.ifCond .ne 5, 3) := by decide +kernel
theorem dX4_letter_20 : decode cX4_letter 20 = .ok (.iconst (-1), 1) := by decide +kernel
theorem dX4_letter_21 : decode cX4_letter 21 = .ok (.ireturn, 1) := by decide +kernel
theorem dX4_letter_22 : decode cX4_letter 22 = .ok (.iload_n 1, 1) := by decide +kernel
theorem dX4_letter_23 : decode cX4_letter 23 = .ok (.aload_n 0, 1) := by decide +kernel
theorem dX4_letter_24 : decode cX4_letter 24 = .ok (.getfield 43, 3) := by decide +kernel
theorem dX4_letter_27 : decode cX4_letter 27 = .ok (.if_icmp .ge 19, 3) := by decide +kernel
theorem dX4_letter_30 : decode cX4_letter 30 = .ok (.aload_n 0, 1) := by decide +kernel
theorem dX4_letter_31 : decode cX4_letter 31 = .ok (.getfield 39, 3) := by decide +kernel
theorem dX4_letter_34 : decode cX4_letter 34 = .ok (.getfield 172, 3) := by decide +kernel
theorem dX4_letter_37 : decode cX4_letter 37 = .ok (.iload_n 1, 1) := by decide +kernel
theorem dX4_letter_38 : decode cX4_letter 38 = .ok (.iaload, 1) := by decide +kernel
theorem dX4_letter_39 : decode cX4_letter 39 = .ok (.aload_n 0, 1) := by decide +kernel
theorem dX4_letter_40 : decode cX4_letter 40 = .ok (.getfield 43, 3) := by decide +kernel
theorem dX4_letter_43 : decode cX4_letter 43 = .ok (.if_icmp .le 6, 3) := by decide +kernel
theorem dX4_letter_46 : decode cX4_letter 46 = .ok (.bipush (-9), 2) := by decide +kernel
theorem dX4_letter_48 : decode cX4_letter 48 = .ok (.ireturn, 1) := by decide +kernel
theorem dX4_letter_49 : decode cX4_letter 49 = .ok (.iload_n 2, 1) := by decide +kernel
theorem dX4_letter_50 : decode cX4_letter 50 = .ok (.lookupswitch 46 #[(0, 26), (1, 36)], 26) := by decide +kernel
theorem dX4_letter_76 : decode cX4_letter 76 = .ok (.aload_n 0, 1) := by decide +kernel
theorem dX4_letter_77 : decode cX4_letter 77 = .ok (.getfield 39, 3) := by decide +kernel
theorem dX4_letter_80 : decode cX4_letter 80 = .ok (.getfield 175, 3) := by decide +kernel
theorem dX4_letter_83 : decode cX4_letter 83 = .ok (.iload_n 1, 1) := by decide +kernel
theorem dX4_letter_84 : decode cX4_letter 84 = .ok (.iaload, 1) := by decide +kernel
theorem dX4_letter_85 : decode cX4_letter 85 = .ok (.ireturn, 1) := by decide +kernel
theorem dX4_letter_86 : decode cX4_letter 86 = .ok (.aload_n 0, 1) := by decide +kernel
theorem dX4_letter_87 : decode cX4_letter 87 = .ok (.getfield 39, 3) := by decide +kernel
theorem dX4_letter_90 : decode cX4_letter 90 = .ok (.getfield 178, 3) := by decide +kernel
theorem dX4_letter_93 : decode cX4_letter 93 = .ok (.iload_n 1, 1) := by decide +kernel
theorem dX4_letter_94 : decode cX4_letter 94 = .ok (.iaload, 1) := by decide +kernel
theorem dX4_letter_95 : decode cX4_letter 95 = .ok (.ireturn, 1) := by decide +kernel
theorem dX4_letter_96 : decode cX4_letter 96 = .ok (.aload_n 0, 1) := by decide +kernel
theorem dX4_letter_97 : decode cX4_letter 97 = .ok (.getfield 39, 3) := by decide +kernel
theorem dX4_letter_100 : decode cX4_letter 100 = .ok (.getfield 172, 3) := by decide +kernel
theorem dX4_letter_103 : decode cX4_letter 103 = .ok (.iload_n 1, 1) := by decide +kernel
theorem dX4_letter_104 : decode cX4_letter 104 = .ok (.iaload, 1) := by decide +kernel
theorem dX4_letter_105 : decode cX4_letter 105 = .ok (.ireturn, 1) := by decide +kernel
theorem dX4_foretold_0 : decode cX4_foretold 0 = .ok (.aload_n 0, 1) := by decide +kernel
theorem dX4_foretold_1 : decode cX4_foretold 1 = .ok (.getfield 39, 3) := by decide +kernel
theorem dX4_foretold_4 : decode cX4_foretold 4 = .ok (.aload_n 0, 1) := by decide +kernel
theorem dX4_foretold_5 : decode cX4_foretold 5 = .ok (.getfield 43, 3) := by decide +kernel
theorem dX4_foretold_8 : decode cX4_foretold 8 = .ok (.invokevirtual 181, 3) := by decide +kernel
theorem dX4_foretold_11 : decode cX4_foretold 11 = .ok (.ireturn, 1) := by decide +kernel
theorem dX4_count_0 : decode cX4_count 0 = .ok (.iload_n 1, 1) := by decide +kernel
theorem dX4_count_1 : decode cX4_count 1 = .ok (.tableswitch 94 0 6 #[43, 48, 53, 61, 66, 81, 89], 43) := by decide +kernel
theorem dX4_count_44 : decode cX4_count 44 = .ok (.aload_n 0, 1) := by decide +kernel
theorem dX4_count_45 : decode cX4_count 45 = .ok (.getfield 43, 3) := by decide +kernel
theorem dX4_count_48 : decode cX4_count 48 = .ok (.ireturn, 1) := by decide +kernel
theorem dX4_count_49 : decode cX4_count 49 = .ok (.aload_n 0, 1) := by decide +kernel
theorem dX4_count_50 : decode cX4_count 50 = .ok (.getfield 47, 3) := by decide +kernel
theorem dX4_count_53 : decode cX4_count 53 = .ok (.ireturn, 1) := by decide +kernel
theorem dX4_count_54 : decode cX4_count 54 = .ok (.aload_n 0, 1) := by decide +kernel
theorem dX4_count_55 : decode cX4_count 55 = .ok (.getfield 16, 3) := by decide +kernel
theorem dX4_count_58 : decode cX4_count 58 = .ok (.getfield 61, 3) := by decide +kernel
theorem dX4_count_61 : decode cX4_count 61 = .ok (.ireturn, 1) := by decide +kernel
theorem dX4_count_62 : decode cX4_count 62 = .ok (.aload_n 0, 1) := by decide +kernel
theorem dX4_count_63 : decode cX4_count 63 = .ok (.invokevirtual 184, 3) := by decide +kernel
theorem dX4_count_66 : decode cX4_count 66 = .ok (.ireturn, 1) := by decide +kernel
theorem dX4_count_67 : decode cX4_count 67 = .ok (.aload_n 0, 1) := by decide +kernel
theorem dX4_count_68 : decode cX4_count 68 = .ok (.getfield 39, 3) := by decide +kernel
theorem dX4_count_71 : decode cX4_count 71 = .ok (.iconst 0, 1) := by decide +kernel
theorem dX4_count_72 : decode cX4_count 72 = .ok (.aload_n 0, 1) := by decide +kernel
theorem dX4_count_73 : decode cX4_count 73 = .ok (.getfield 43, 3) := by decide +kernel
theorem dX4_count_76 : decode cX4_count 76 = .ok (.iconst 1, 1) := by decide +kernel
theorem dX4_count_77 : decode cX4_count 77 = .ok (.isub, 1) := by decide +kernel
theorem dX4_count_78 : decode cX4_count 78 = .ok (.invokevirtual 187, 3) := by decide +kernel
theorem dX4_count_81 : decode cX4_count 81 = .ok (.ireturn, 1) := by decide +kernel
theorem dX4_count_82 : decode cX4_count 82 = .ok (.aload_n 0, 1) := by decide +kernel
theorem dX4_count_83 : decode cX4_count 83 = .ok (.getfield 32, 3) := by decide +kernel
theorem dX4_count_86 : decode cX4_count 86 = .ok (.getfield 132, 3) := by decide +kernel
theorem dX4_count_89 : decode cX4_count 89 = .ok (.ireturn, 1) := by decide +kernel
theorem dX4_count_90 : decode cX4_count 90 = .ok (.aload_n 0, 1) := by decide +kernel
theorem dX4_count_91 : decode cX4_count 91 = .ok (.invokevirtual 190, 3) := by decide +kernel
theorem dX4_count_94 : decode cX4_count 94 = .ok (.ireturn, 1) := by decide +kernel
theorem dX4_count_95 : decode cX4_count 95 = .ok (.iconst (-1), 1) := by decide +kernel
theorem dX4_count_96 : decode cX4_count 96 = .ok (.ireturn, 1) := by decide +kernel
theorem dX4_trace_0 : decode cX4_trace 0 = .ok (.aload_n 0, 1) := by decide +kernel
theorem dX4_trace_1 : decode cX4_trace 1 = .ok (.getfield 53, 3) := by decide +kernel
theorem dX4_trace_4 : decode cX4_trace 4 = .ok (.lreturn, 1) := by decide +kernel
theorem dX4_within_0 : decode cX4_within 0 = .ok (.iload_n 0, 1) := by decide +kernel
theorem dX4_within_1 : decode cX4_within 1 = .ok (.iload_n 1, 1) := by decide +kernel
theorem dX4_within_2 : decode cX4_within 2 = .ok (.if_icmp .lt 12, 3) := by decide +kernel
theorem dX4_within_5 : decode cX4_within 5 = .ok (.iload_n 0, 1) := by decide +kernel
theorem dX4_within_6 : decode cX4_within 6 = .ok (.iload_n 2, 1) := by decide +kernel
theorem dX4_within_7 : decode cX4_within 7 = .ok (.if_icmp .gt 7, 3) := by decide +kernel
theorem dX4_within_10 : decode cX4_within 10 = .ok (.iconst 1, 1) := by decide +kernel
theorem dX4_within_11 : decode cX4_within 11 = .ok (.goto 4, 3) := by decide +kernel
theorem dX4_within_14 : decode cX4_within 14 = .ok (.iconst 0, 1) := by decide +kernel
theorem dX4_within_15 : decode cX4_within 15 = .ok (.ireturn, 1) := by decide +kernel
theorem dX4_shipNumbered_0 : decode cX4_shipNumbered 0 = .ok (.iload_n 1, 1) := by decide +kernel
theorem dX4_shipNumbered_1 : decode cX4_shipNumbered 1 = .ok (.ifCond .lt 20, 3) := by decide +kernel
theorem dX4_shipNumbered_4 : decode cX4_shipNumbered 4 = .ok (.iload_n 1, 1) := by decide +kernel
theorem dX4_shipNumbered_5 : decode cX4_shipNumbered 5 = .ok (.aload_n 0, 1) := by decide +kernel
theorem dX4_shipNumbered_6 : decode cX4_shipNumbered 6 = .ok (.getfield 47, 3) := by decide +kernel
theorem dX4_shipNumbered_9 : decode cX4_shipNumbered 9 = .ok (.if_icmp .ge 12, 3) := by decide +kernel
theorem dX4_shipNumbered_12 : decode cX4_shipNumbered 12 = .ok (.aload_n 0, 1) := by decide +kernel
theorem dX4_shipNumbered_13 : decode cX4_shipNumbered 13 = .ok (.getfield 22, 3) := by decide +kernel
theorem dX4_shipNumbered_16 : decode cX4_shipNumbered 16 = .ok (.iload_n 1, 1) := by decide +kernel
theorem dX4_shipNumbered_17 : decode cX4_shipNumbered 17 = .ok (.aaload, 1) := by decide +kernel
theorem dX4_shipNumbered_18 : decode cX4_shipNumbered 18 = .ok (.goto 4, 3) := by decide +kernel
theorem dX4_shipNumbered_21 : decode cX4_shipNumbered 21 = .ok (.aconst_null, 1) := by decide +kernel
theorem dX4_shipNumbered_22 : decode cX4_shipNumbered 22 = .ok (.areturn, 1) := by decide +kernel
theorem dX4_chutesShut_0 : decode cX4_chutesShut 0 = .ok (.aload_n 0, 1) := by decide +kernel
theorem dX4_chutesShut_1 : decode cX4_chutesShut 1 = .ok (.getfield 9, 3) := by decide +kernel
theorem dX4_chutesShut_4 : decode cX4_chutesShut 4 = .ok (.iload_n 1, 1) := by decide +kernel
theorem dX4_chutesShut_5 : decode cX4_chutesShut 5 = .ok (.iaload, 1) := by decide +kernel
theorem dX4_chutesShut_6 : decode cX4_chutesShut 6 = .ok (.iconst 4, 1) := by decide +kernel
theorem dX4_chutesShut_7 : decode cX4_chutesShut 7 = .ok (.if_icmp .le 7, 3) := by decide +kernel
theorem dX4_chutesShut_10 : decode cX4_chutesShut 10 = .ok (.iconst 1, 1) := by decide +kernel
theorem dX4_chutesShut_11 : decode cX4_chutesShut 11 = .ok (.goto 4, 3) := by decide +kernel
theorem dX4_chutesShut_14 : decode cX4_chutesShut 14 = .ok (.iconst 0, 1) := by decide +kernel
theorem dX4_chutesShut_15 : decode cX4_chutesShut 15 = .ok (.ireturn, 1) := by decide +kernel
theorem dX4_lightersShut_0 : decode cX4_lightersShut 0 = .ok (.aload_n 0, 1) := by decide +kernel
theorem dX4_lightersShut_1 : decode cX4_lightersShut 1 = .ok (.getfield 9, 3) := by decide +kernel
theorem dX4_lightersShut_4 : decode cX4_lightersShut 4 = .ok (.iload_n 1, 1) := by decide +kernel
theorem dX4_lightersShut_5 : decode cX4_lightersShut 5 = .ok (.iaload, 1) := by decide +kernel
theorem dX4_lightersShut_6 : decode cX4_lightersShut 6 = .ok (.bipush 7, 2) := by decide +kernel
theorem dX4_lightersShut_8 : decode cX4_lightersShut 8 = .ok (.if_icmp .le 7, 3) := by decide +kernel
theorem dX4_lightersShut_11 : decode cX4_lightersShut 11 = .ok (.iconst 1, 1) := by decide +kernel
theorem dX4_lightersShut_12 : decode cX4_lightersShut 12 = .ok (.goto 4, 3) := by decide +kernel
theorem dX4_lightersShut_15 : decode cX4_lightersShut 15 = .ok (.iconst 0, 1) := by decide +kernel
theorem dX4_lightersShut_16 : decode cX4_lightersShut 16 = .ok (.ireturn, 1) := by decide +kernel
theorem dX4_letOneDayGo_0 : decode cX4_letOneDayGo 0 = .ok (.iconst 0, 1) := by decide +kernel
theorem dX4_letOneDayGo_1 : decode cX4_letOneDayGo 1 = .ok (.istore_n 1, 1) := by decide +kernel
theorem dX4_letOneDayGo_2 : decode cX4_letOneDayGo 2 = .ok (.iload_n 1, 1) := by decide +kernel
theorem dX4_letOneDayGo_3 : decode cX4_letOneDayGo 3 = .ok (.aload_n 0, 1) := by decide +kernel
theorem dX4_letOneDayGo_4 : decode cX4_letOneDayGo 4 = .ok (.getfield 47, 3) := by decide +kernel
theorem dX4_letOneDayGo_7 : decode cX4_letOneDayGo 7 = .ok (.if_icmp .ge 22, 3) := by decide +kernel
theorem dX4_letOneDayGo_10 : decode cX4_letOneDayGo 10 = .ok (.aload_n 0, 1) := by decide +kernel
theorem dX4_letOneDayGo_11 : decode cX4_letOneDayGo 11 = .ok (.getfield 22, 3) := by decide +kernel
theorem dX4_letOneDayGo_14 : decode cX4_letOneDayGo 14 = .ok (.iload_n 1, 1) := by decide +kernel
theorem dX4_letOneDayGo_15 : decode cX4_letOneDayGo 15 = .ok (.aaload, 1) := by decide +kernel
theorem dX4_letOneDayGo_16 : decode cX4_letOneDayGo 16 = .ok (.aload_n 0, 1) := by decide +kernel
theorem dX4_letOneDayGo_17 : decode cX4_letOneDayGo 17 = .ok (.getfield 43, 3) := by decide +kernel
theorem dX4_letOneDayGo_20 : decode cX4_letOneDayGo 20 = .ok (.invokevirtual 193, 3) := by decide +kernel
theorem dX4_letOneDayGo_23 : decode cX4_letOneDayGo 23 = .ok (.iinc 1 1, 3) := by decide +kernel
theorem dX4_letOneDayGo_26 : decode cX4_letOneDayGo 26 = .ok (.goto (-24), 3) := by decide +kernel
theorem dX4_letOneDayGo_29 : decode cX4_letOneDayGo 29 = .ok (.aload_n 0, 1) := by decide +kernel
theorem dX4_letOneDayGo_30 : decode cX4_letOneDayGo 30 = .ok (.aload_n 0, 1) := by decide +kernel
theorem dX4_letOneDayGo_31 : decode cX4_letOneDayGo 31 = .ok (.invokevirtual 197, 3) := by decide +kernel
theorem dX4_letOneDayGo_34 : decode cX4_letOneDayGo 34 = .ok (.invokevirtual 200, 3) := by decide +kernel
theorem dX4_letOneDayGo_37 : decode cX4_letOneDayGo 37 = .ok (.istore_n 1, 1) := by decide +kernel
theorem dX4_letOneDayGo_38 : decode cX4_letOneDayGo 38 = .ok (.aload_n 0, 1) := by decide +kernel
theorem dX4_letOneDayGo_39 : decode cX4_letOneDayGo 39 = .ok (.getfield 39, 3) := by decide +kernel
theorem dX4_letOneDayGo_42 : decode cX4_letOneDayGo 42 = .ok (.aload_n 0, 1) := by decide +kernel
theorem dX4_letOneDayGo_43 : decode cX4_letOneDayGo 43 = .ok (.getfield 43, 3) := by decide +kernel
theorem dX4_letOneDayGo_46 : decode cX4_letOneDayGo 46 = .ok (.aload_n 0, 1) := by decide +kernel
theorem dX4_letOneDayGo_47 : decode cX4_letOneDayGo 47 = .ok (.invokevirtual 203, 3) := by decide +kernel
theorem dX4_letOneDayGo_50 : decode cX4_letOneDayGo 50 = .ok (.iload_n 1, 1) := by decide +kernel
theorem dX4_letOneDayGo_51 : decode cX4_letOneDayGo 51 = .ok (.aload_n 0, 1) := by decide +kernel
theorem dX4_letOneDayGo_52 : decode cX4_letOneDayGo 52 = .ok (.getfield 43, 3) := by decide +kernel
theorem dX4_letOneDayGo_55 : decode cX4_letOneDayGo 55 = .ok (.aload_n 0, 1) := by decide +kernel
theorem dX4_letOneDayGo_56 : decode cX4_letOneDayGo 56 = .ok (.getfield 50, 3) := by decide +kernel
theorem dX4_letOneDayGo_59 : decode cX4_letOneDayGo 59 = .ok (.iadd, 1) := by decide +kernel
theorem dX4_letOneDayGo_60 : decode cX4_letOneDayGo 60 = .ok (.invokevirtual 206, 3) := by decide +kernel
theorem dX4_letOneDayGo_63 : decode cX4_letOneDayGo 63 = .ok (.aload_n 0, 1) := by decide +kernel
theorem dX4_letOneDayGo_64 : decode cX4_letOneDayGo 64 = .ok (.dup, 1) := by decide +kernel
theorem dX4_letOneDayGo_65 : decode cX4_letOneDayGo 65 = .ok (.getfield 43, 3) := by decide +kernel
theorem dX4_letOneDayGo_68 : decode cX4_letOneDayGo 68 = .ok (.iconst 1, 1) := by decide +kernel
theorem dX4_letOneDayGo_69 : decode cX4_letOneDayGo 69 = .ok (.iadd, 1) := by decide +kernel
theorem dX4_letOneDayGo_70 : decode cX4_letOneDayGo 70 = .ok (.putfield 43, 3) := by decide +kernel
theorem dX4_letOneDayGo_73 : decode cX4_letOneDayGo 73 = .ok (.return_, 1) := by decide +kernel
theorem dX4_lineUp_0 : decode cX4_lineUp 0 = .ok (.iconst 0, 1) := by decide +kernel
theorem dX4_lineUp_1 : decode cX4_lineUp 1 = .ok (.istore_n 1, 1) := by decide +kernel
theorem dX4_lineUp_2 : decode cX4_lineUp 2 = .ok (.iconst 0, 1) := by decide +kernel
theorem dX4_lineUp_3 : decode cX4_lineUp 3 = .ok (.istore_n 2, 1) := by decide +kernel
theorem dX4_lineUp_4 : decode cX4_lineUp 4 = .ok (.iload_n 2, 1) := by decide +kernel
theorem dX4_lineUp_5 : decode cX4_lineUp 5 = .ok (.aload_n 0, 1) := by decide +kernel
theorem dX4_lineUp_6 : decode cX4_lineUp 6 = .ok (.getfield 47, 3) := by decide +kernel
theorem dX4_lineUp_9 : decode cX4_lineUp 9 = .ok (.if_icmp .ge 47, 3) := by decide +kernel
theorem dX4_lineUp_12 : decode cX4_lineUp 12 = .ok (.aload_n 0, 1) := by decide +kernel
theorem dX4_lineUp_13 : decode cX4_lineUp 13 = .ok (.getfield 22, 3) := by decide +kernel
theorem dX4_lineUp_16 : decode cX4_lineUp 16 = .ok (.iload_n 2, 1) := by decide +kernel
theorem dX4_lineUp_17 : decode cX4_lineUp 17 = .ok (.aaload, 1) := by decide +kernel
theorem dX4_lineUp_18 : decode cX4_lineUp 18 = .ok (.invokevirtual 119, 3) := by decide +kernel
theorem dX4_lineUp_21 : decode cX4_lineUp 21 = .ok (.ifCond .ne 29, 3) := by decide +kernel
theorem dX4_lineUp_24 : decode cX4_lineUp 24 = .ok (.aload_n 0, 1) := by decide +kernel
theorem dX4_lineUp_25 : decode cX4_lineUp 25 = .ok (.getfield 22, 3) := by decide +kernel
theorem dX4_lineUp_28 : decode cX4_lineUp 28 = .ok (.iload_n 2, 1) := by decide +kernel
theorem dX4_lineUp_29 : decode cX4_lineUp 29 = .ok (.aaload, 1) := by decide +kernel
theorem dX4_lineUp_30 : decode cX4_lineUp 30 = .ok (.invokevirtual 210, 3) := by decide +kernel
theorem dX4_lineUp_33 : decode cX4_lineUp 33 = .ok (.ifCond .ne 17, 3) := by decide +kernel
theorem dX4_lineUp_36 : decode cX4_lineUp 36 = .ok (.aload_n 0, 1) := by decide +kernel
theorem dX4_lineUp_37 : decode cX4_lineUp 37 = .ok (.aload_n 0, 1) := by decide +kernel
theorem dX4_lineUp_38 : decode cX4_lineUp 38 = .ok (.getfield 22, 3) := by decide +kernel
theorem dX4_lineUp_41 : decode cX4_lineUp 41 = .ok (.iload_n 2, 1) := by decide +kernel
theorem dX4_lineUp_42 : decode cX4_lineUp 42 = .ok (.aaload, 1) := by decide +kernel
theorem dX4_lineUp_43 : decode cX4_lineUp 43 = .ok (.iload_n 1, 1) := by decide +kernel
theorem dX4_lineUp_44 : decode cX4_lineUp 44 = .ok (.invokevirtual 213, 3) := by decide +kernel
theorem dX4_lineUp_47 : decode cX4_lineUp 47 = .ok (.iinc 1 1, 3) := by decide +kernel
theorem dX4_lineUp_50 : decode cX4_lineUp 50 = .ok (.iinc 2 1, 3) := by decide +kernel
theorem dX4_lineUp_53 : decode cX4_lineUp 53 = .ok (.goto (-49), 3) := by decide +kernel
theorem dX4_lineUp_56 : decode cX4_lineUp 56 = .ok (.iload_n 1, 1) := by decide +kernel
theorem dX4_lineUp_57 : decode cX4_lineUp 57 = .ok (.ireturn, 1) := by decide +kernel
theorem dX4_standInLine_0 : decode cX4_standInLine 0 = .ok (.iload_n 2, 1) := by decide +kernel
theorem dX4_standInLine_1 : decode cX4_standInLine 1 = .ok (.istore_n 3, 1) := by decide +kernel
theorem dX4_standInLine_2 : decode cX4_standInLine 2 = .ok (.iload_n 3, 1) := by decide +kernel
theorem dX4_standInLine_3 : decode cX4_standInLine 3 = .ok (.ifCond .le 49, 3) := by decide +kernel
theorem dX4_standInLine_6 : decode cX4_standInLine 6 = .ok (.aload_n 0, 1) := by decide +kernel
theorem dX4_standInLine_7 : decode cX4_standInLine 7 = .ok (.getfield 26, 3) := by decide +kernel
theorem dX4_standInLine_10 : decode cX4_standInLine 10 = .ok (.iload_n 3, 1) := by decide +kernel
theorem dX4_standInLine_11 : decode cX4_standInLine 11 = .ok (.iconst 1, 1) := by decide +kernel
theorem dX4_standInLine_12 : decode cX4_standInLine 12 = .ok (.isub, 1) := by decide +kernel
theorem dX4_standInLine_13 : decode cX4_standInLine 13 = .ok (.aaload, 1) := by decide +kernel
theorem dX4_standInLine_14 : decode cX4_standInLine 14 = .ok (.aload_n 0, 1) := by decide +kernel
theorem dX4_standInLine_15 : decode cX4_standInLine 15 = .ok (.getfield 43, 3) := by decide +kernel
theorem dX4_standInLine_18 : decode cX4_standInLine 18 = .ok (.invokevirtual 88, 3) := by decide +kernel
theorem dX4_standInLine_21 : decode cX4_standInLine 21 = .ok (.aload_n 1, 1) := by decide +kernel
theorem dX4_standInLine_22 : decode cX4_standInLine 22 = .ok (.aload_n 0, 1) := by decide +kernel
theorem dX4_standInLine_23 : decode cX4_standInLine 23 = .ok (.getfield 43, 3) := by decide +kernel
theorem dX4_standInLine_26 : decode cX4_standInLine 26 = .ok (.invokevirtual 88, 3) := by decide +kernel
theorem dX4_standInLine_29 : decode cX4_standInLine 29 = .ok (.if_icmp .le 23, 3) := by decide +kernel
theorem dX4_standInLine_32 : decode cX4_standInLine 32 = .ok (.aload_n 0, 1) := by decide +kernel
theorem dX4_standInLine_33 : decode cX4_standInLine 33 = .ok (.getfield 26, 3) := by decide +kernel
theorem dX4_standInLine_36 : decode cX4_standInLine 36 = .ok (.iload_n 3, 1) := by decide +kernel
theorem dX4_standInLine_37 : decode cX4_standInLine 37 = .ok (.aload_n 0, 1) := by decide +kernel
theorem dX4_standInLine_38 : decode cX4_standInLine 38 = .ok (.getfield 26, 3) := by decide +kernel
theorem dX4_standInLine_41 : decode cX4_standInLine 41 = .ok (.iload_n 3, 1) := by decide +kernel
theorem dX4_standInLine_42 : decode cX4_standInLine 42 = .ok (.iconst 1, 1) := by decide +kernel
theorem dX4_standInLine_43 : decode cX4_standInLine 43 = .ok (.isub, 1) := by decide +kernel
theorem dX4_standInLine_44 : decode cX4_standInLine 44 = .ok (.aaload, 1) := by decide +kernel
theorem dX4_standInLine_45 : decode cX4_standInLine 45 = .ok (.aastore, 1) := by decide +kernel
theorem dX4_standInLine_46 : decode cX4_standInLine 46 = .ok (.iinc 3 (-1), 3) := by decide +kernel
theorem dX4_standInLine_49 : decode cX4_standInLine 49 = .ok (.goto (-47), 3) := by decide +kernel
theorem dX4_standInLine_52 : decode cX4_standInLine 52 = .ok (.aload_n 0, 1) := by decide +kernel
theorem dX4_standInLine_53 : decode cX4_standInLine 53 = .ok (.getfield 26, 3) := by decide +kernel
theorem dX4_standInLine_56 : decode cX4_standInLine 56 = .ok (.iload_n 3, 1) := by decide +kernel
theorem dX4_standInLine_57 : decode cX4_standInLine 57 = .ok (.aload_n 1, 1) := by decide +kernel
theorem dX4_standInLine_58 : decode cX4_standInLine 58 = .ok (.aastore, 1) := by decide +kernel
theorem dX4_standInLine_59 : decode cX4_standInLine 59 = .ok (.return_, 1) := by decide +kernel
theorem dX4_loadLine_0 : decode cX4_loadLine 0 = .ok (.iconst 0, 1) := by decide +kernel
theorem dX4_loadLine_1 : decode cX4_loadLine 1 = .ok (.istore_n 2, 1) := by decide +kernel
theorem dX4_loadLine_2 : decode cX4_loadLine 2 = .ok (.iconst 0, 1) := by decide +kernel
theorem dX4_loadLine_3 : decode cX4_loadLine 3 = .ok (.istore_n 3, 1) := by decide +kernel
theorem dX4_loadLine_4 : decode cX4_loadLine 4 = .ok (.iload_n 3, 1) := by decide +kernel
theorem dX4_loadLine_5 : decode cX4_loadLine 5 = .ok (.iload_n 1, 1) := by decide +kernel
theorem dX4_loadLine_6 : decode cX4_loadLine 6 = .ok (.if_icmp .ge 60, 3) := by decide +kernel
theorem dX4_loadLine_9 : decode cX4_loadLine 9 = .ok (.aload_n 0, 1) := by decide +kernel
theorem dX4_loadLine_10 : decode cX4_loadLine 10 = .ok (.getfield 26, 3) := by decide +kernel
theorem dX4_loadLine_13 : decode cX4_loadLine 13 = .ok (.iload_n 3, 1) := by decide +kernel
theorem dX4_loadLine_14 : decode cX4_loadLine 14 = .ok (.aaload, 1) := by decide +kernel
theorem dX4_loadLine_15 : decode cX4_loadLine 15 = .ok (.astore 4, 2) := by decide +kernel
theorem dX4_loadLine_17 : decode cX4_loadLine 17 = .ok (.aload_n 0, 1) := by decide +kernel
theorem dX4_loadLine_18 : decode cX4_loadLine 18 = .ok (.getfield 16, 3) := by decide +kernel
theorem dX4_loadLine_21 : decode cX4_loadLine 21 = .ok (.aload_n 0, 1) := by decide +kernel
theorem dX4_loadLine_22 : decode cX4_loadLine 22 = .ok (.iload_n 3, 1) := by decide +kernel
theorem dX4_loadLine_23 : decode cX4_loadLine 23 = .ok (.invokevirtual 217, 3) := by decide +kernel
theorem dX4_loadLine_26 : decode cX4_loadLine 26 = .ok (.aload 4, 2) := by decide +kernel
theorem dX4_loadLine_28 : decode cX4_loadLine 28 = .ok (.getfield 98, 3) := by decide +kernel
theorem dX4_loadLine_31 : decode cX4_loadLine 31 = .ok (.invokestatic 123, 3) := by decide +kernel
theorem dX4_loadLine_34 : decode cX4_loadLine 34 = .ok (.aload 4, 2) := by decide +kernel
theorem dX4_loadLine_36 : decode cX4_loadLine 36 = .ok (.getfield 109, 3) := by decide +kernel
theorem dX4_loadLine_39 : decode cX4_loadLine 39 = .ok (.invokevirtual 220, 3) := by decide +kernel
theorem dX4_loadLine_42 : decode cX4_loadLine 42 = .ok (.istore 5, 2) := by decide +kernel
theorem dX4_loadLine_44 : decode cX4_loadLine 44 = .ok (.aload 4, 2) := by decide +kernel
theorem dX4_loadLine_46 : decode cX4_loadLine 46 = .ok (.iload 5, 2) := by decide +kernel
theorem dX4_loadLine_48 : decode cX4_loadLine 48 = .ok (.aload_n 0, 1) := by decide +kernel
theorem dX4_loadLine_49 : decode cX4_loadLine 49 = .ok (.getfield 43, 3) := by decide +kernel
theorem dX4_loadLine_52 : decode cX4_loadLine 52 = .ok (.invokevirtual 224, 3) := by decide +kernel
theorem dX4_loadLine_55 : decode cX4_loadLine 55 = .ok (.iload_n 2, 1) := by decide +kernel
theorem dX4_loadLine_56 : decode cX4_loadLine 56 = .ok (.iload 5, 2) := by decide +kernel
theorem dX4_loadLine_58 : decode cX4_loadLine 58 = .ok (.iadd, 1) := by decide +kernel
theorem dX4_loadLine_59 : decode cX4_loadLine 59 = .ok (.istore_n 2, 1) := by decide +kernel
theorem dX4_loadLine_60 : decode cX4_loadLine 60 = .ok (.iinc 3 1, 3) := by decide +kernel
theorem dX4_loadLine_63 : decode cX4_loadLine 63 = .ok (.goto (-59), 3) := by decide +kernel
theorem dX4_loadLine_66 : decode cX4_loadLine 66 = .ok (.iload_n 2, 1) := by decide +kernel
theorem dX4_loadLine_67 : decode cX4_loadLine 67 = .ok (.ireturn, 1) := by decide +kernel
theorem dX4_tonsAt_0 : decode cX4_tonsAt 0 = .ok (.iload_n 1, 1) := by decide +kernel
theorem dX4_tonsAt_1 : decode cX4_tonsAt 1 = .ok (.iconst 2, 1) := by decide +kernel
theorem dX4_tonsAt_2 : decode cX4_tonsAt 2 = .ok (.if_icmp .ge 17, 3) := by decide +kernel
theorem dX4_tonsAt_5 : decode cX4_tonsAt 5 = .ok (.aload_n 0, 1) := by decide +kernel
theorem dX4_tonsAt_6 : decode cX4_tonsAt 6 = .ok (.aload_n 0, 1) := by decide +kernel
theorem dX4_tonsAt_7 : decode cX4_tonsAt 7 = .ok (.getfield 43, 3) := by decide +kernel
theorem dX4_tonsAt_10 : decode cX4_tonsAt 10 = .ok (.invokevirtual 228, 3) := by decide +kernel
theorem dX4_tonsAt_13 : decode cX4_tonsAt 13 = .ok (.ifCond .ne 6, 3) := by decide +kernel
theorem dX4_tonsAt_16 : decode cX4_tonsAt 16 = .ok (.bipush 60, 2) := by decide +kernel
theorem dX4_tonsAt_18 : decode cX4_tonsAt 18 = .ok (.ireturn, 1) := by decide +kernel
theorem dX4_tonsAt_19 : decode cX4_tonsAt 19 = .ok (.aload_n 0, 1) := by decide +kernel
theorem dX4_tonsAt_20 : decode cX4_tonsAt 20 = .ok (.aload_n 0, 1) := by decide +kernel
theorem dX4_tonsAt_21 : decode cX4_tonsAt 21 = .ok (.getfield 43, 3) := by decide +kernel
theorem dX4_tonsAt_24 : decode cX4_tonsAt 24 = .ok (.invokevirtual 231, 3) := by decide +kernel
theorem dX4_tonsAt_27 : decode cX4_tonsAt 27 = .ok (.ifCond .eq 7, 3) := by decide +kernel
theorem dX4_tonsAt_30 : decode cX4_tonsAt 30 = .ok (.iconst 0, 1) := by decide +kernel
theorem dX4_tonsAt_31 : decode cX4_tonsAt 31 = .ok (.goto 5, 3) := by decide +kernel
theorem dX4_tonsAt_34 : decode cX4_tonsAt 34 = .ok (.bipush 15, 2) := by decide +kernel
theorem dX4_tonsAt_36 : decode cX4_tonsAt 36 = .ok (.ireturn, 1) := by decide +kernel
theorem dX4_tonsWanted_0 : decode cX4_tonsWanted 0 = .ok (.iconst 0, 1) := by decide +kernel
theorem dX4_tonsWanted_1 : decode cX4_tonsWanted 1 = .ok (.istore_n 1, 1) := by decide +kernel
theorem dX4_tonsWanted_2 : decode cX4_tonsWanted 2 = .ok (.iconst 0, 1) := by decide +kernel
theorem dX4_tonsWanted_3 : decode cX4_tonsWanted 3 = .ok (.istore_n 2, 1) := by decide +kernel
theorem dX4_tonsWanted_4 : decode cX4_tonsWanted 4 = .ok (.iload_n 2, 1) := by decide +kernel
theorem dX4_tonsWanted_5 : decode cX4_tonsWanted 5 = .ok (.aload_n 0, 1) := by decide +kernel
theorem dX4_tonsWanted_6 : decode cX4_tonsWanted 6 = .ok (.getfield 47, 3) := by decide +kernel
theorem dX4_tonsWanted_9 : decode cX4_tonsWanted 9 = .ok (.if_icmp .ge 21, 3) := by decide +kernel
theorem dX4_tonsWanted_12 : decode cX4_tonsWanted 12 = .ok (.iload_n 1, 1) := by decide +kernel
theorem dX4_tonsWanted_13 : decode cX4_tonsWanted 13 = .ok (.aload_n 0, 1) := by decide +kernel
theorem dX4_tonsWanted_14 : decode cX4_tonsWanted 14 = .ok (.getfield 22, 3) := by decide +kernel
theorem dX4_tonsWanted_17 : decode cX4_tonsWanted 17 = .ok (.iload_n 2, 1) := by decide +kernel
theorem dX4_tonsWanted_18 : decode cX4_tonsWanted 18 = .ok (.aaload, 1) := by decide +kernel
theorem dX4_tonsWanted_19 : decode cX4_tonsWanted 19 = .ok (.getfield 98, 3) := by decide +kernel
theorem dX4_tonsWanted_22 : decode cX4_tonsWanted 22 = .ok (.iadd, 1) := by decide +kernel
theorem dX4_tonsWanted_23 : decode cX4_tonsWanted 23 = .ok (.istore_n 1, 1) := by decide +kernel
theorem dX4_tonsWanted_24 : decode cX4_tonsWanted 24 = .ok (.iinc 2 1, 3) := by decide +kernel
theorem dX4_tonsWanted_27 : decode cX4_tonsWanted 27 = .ok (.goto (-23), 3) := by decide +kernel
theorem dX4_tonsWanted_30 : decode cX4_tonsWanted 30 = .ok (.iload_n 1, 1) := by decide +kernel
theorem dX4_tonsWanted_31 : decode cX4_tonsWanted 31 = .ok (.ireturn, 1) := by decide +kernel
theorem dX4_loadedShips_0 : decode cX4_loadedShips 0 = .ok (.iconst 0, 1) := by decide +kernel
theorem dX4_loadedShips_1 : decode cX4_loadedShips 1 = .ok (.istore_n 1, 1) := by decide +kernel
theorem dX4_loadedShips_2 : decode cX4_loadedShips 2 = .ok (.iconst 0, 1) := by decide +kernel
theorem dX4_loadedShips_3 : decode cX4_loadedShips 3 = .ok (.istore_n 2, 1) := by decide +kernel
theorem dX4_loadedShips_4 : decode cX4_loadedShips 4 = .ok (.iload_n 2, 1) := by decide +kernel
theorem dX4_loadedShips_5 : decode cX4_loadedShips 5 = .ok (.aload_n 0, 1) := by decide +kernel
theorem dX4_loadedShips_6 : decode cX4_loadedShips 6 = .ok (.getfield 47, 3) := by decide +kernel
theorem dX4_loadedShips_9 : decode cX4_loadedShips 9 = .ok (.if_icmp .ge 24, 3) := by decide +kernel
theorem dX4_loadedShips_12 : decode cX4_loadedShips 12 = .ok (.aload_n 0, 1) := by decide +kernel
theorem dX4_loadedShips_13 : decode cX4_loadedShips 13 = .ok (.getfield 22, 3) := by decide +kernel
theorem dX4_loadedShips_16 : decode cX4_loadedShips 16 = .ok (.iload_n 2, 1) := by decide +kernel
theorem dX4_loadedShips_17 : decode cX4_loadedShips 17 = .ok (.aaload, 1) := by decide +kernel
theorem dX4_loadedShips_18 : decode cX4_loadedShips 18 = .ok (.invokevirtual 119, 3) := by decide +kernel
theorem dX4_loadedShips_21 : decode cX4_loadedShips 21 = .ok (.ifCond .eq 6, 3) := by decide +kernel
theorem dX4_loadedShips_24 : decode cX4_loadedShips 24 = .ok (.iinc 1 1, 3) := by decide +kernel
theorem dX4_loadedShips_27 : decode cX4_loadedShips 27 = .ok (.iinc 2 1, 3) := by decide +kernel
theorem dX4_loadedShips_30 : decode cX4_loadedShips 30 = .ok (.goto (-26), 3) := by decide +kernel
theorem dX4_loadedShips_33 : decode cX4_loadedShips 33 = .ok (.iload_n 1, 1) := by decide +kernel
theorem dX4_loadedShips_34 : decode cX4_loadedShips 34 = .ok (.ireturn, 1) := by decide +kernel
theorem dX4_dryShips_0 : decode cX4_dryShips 0 = .ok (.iconst 0, 1) := by decide +kernel
theorem dX4_dryShips_1 : decode cX4_dryShips 1 = .ok (.istore_n 1, 1) := by decide +kernel
theorem dX4_dryShips_2 : decode cX4_dryShips 2 = .ok (.iconst 0, 1) := by decide +kernel
theorem dX4_dryShips_3 : decode cX4_dryShips 3 = .ok (.istore_n 2, 1) := by decide +kernel
theorem dX4_dryShips_4 : decode cX4_dryShips 4 = .ok (.iload_n 2, 1) := by decide +kernel
theorem dX4_dryShips_5 : decode cX4_dryShips 5 = .ok (.aload_n 0, 1) := by decide +kernel
theorem dX4_dryShips_6 : decode cX4_dryShips 6 = .ok (.getfield 47, 3) := by decide +kernel
theorem dX4_dryShips_9 : decode cX4_dryShips 9 = .ok (.if_icmp .ge 24, 3) := by decide +kernel
theorem dX4_dryShips_12 : decode cX4_dryShips 12 = .ok (.aload_n 0, 1) := by decide +kernel
theorem dX4_dryShips_13 : decode cX4_dryShips 13 = .ok (.getfield 22, 3) := by decide +kernel
theorem dX4_dryShips_16 : decode cX4_dryShips 16 = .ok (.iload_n 2, 1) := by decide +kernel
theorem dX4_dryShips_17 : decode cX4_dryShips 17 = .ok (.aaload, 1) := by decide +kernel
theorem dX4_dryShips_18 : decode cX4_dryShips 18 = .ok (.invokevirtual 210, 3) := by decide +kernel
theorem dX4_dryShips_21 : decode cX4_dryShips 21 = .ok (.ifCond .eq 6, 3) := by decide +kernel
theorem dX4_dryShips_24 : decode cX4_dryShips 24 = .ok (.iinc 1 1, 3) := by decide +kernel
theorem dX4_dryShips_27 : decode cX4_dryShips 27 = .ok (.iinc 2 1, 3) := by decide +kernel
theorem dX4_dryShips_30 : decode cX4_dryShips 30 = .ok (.goto (-26), 3) := by decide +kernel
theorem dX4_dryShips_33 : decode cX4_dryShips 33 = .ok (.iload_n 1, 1) := by decide +kernel
theorem dX4_dryShips_34 : decode cX4_dryShips 34 = .ok (.ireturn, 1) := by decide +kernel
theorem dX4_lastDayOf_0 : decode cX4_lastDayOf 0 = .ok (.aload_n 1, 1) := by decide +kernel
theorem dX4_lastDayOf_1 : decode cX4_lastDayOf 1 = .ok (.invokevirtual 119, 3) := by decide +kernel
theorem dX4_lastDayOf_4 : decode cX4_lastDayOf 4 = .ok (.ifCond .eq 10, 3) := by decide +kernel
theorem dX4_lastDayOf_7 : decode cX4_lastDayOf 7 = .ok (.aload_n 1, 1) := by decide +kernel
theorem dX4_lastDayOf_8 : decode cX4_lastDayOf 8 = .ok (.getfield 106, 3) := by decide +kernel
theorem dX4_lastDayOf_11 : decode cX4_lastDayOf 11 = .ok (.goto 9, 3) := by decide +kernel
theorem dX4_lastDayOf_14 : decode cX4_lastDayOf 14 = .ok (.aload_n 0, 1) := by decide +kernel
theorem dX4_lastDayOf_15 : decode cX4_lastDayOf 15 = .ok (.getfield 43, 3) := by decide +kernel
theorem dX4_lastDayOf_18 : decode cX4_lastDayOf 18 = .ok (.iconst 1, 1) := by decide +kernel
theorem dX4_lastDayOf_19 : decode cX4_lastDayOf 19 = .ok (.isub, 1) := by decide +kernel
theorem dX4_lastDayOf_20 : decode cX4_lastDayOf 20 = .ok (.ireturn, 1) := by decide +kernel
theorem dX4_counts_0 : decode cX4_counts 0 = .ok (.aload_n 1, 1) := by decide +kernel
theorem dX4_counts_1 : decode cX4_counts 1 = .ok (.iconst 3, 1) := by decide +kernel
theorem dX4_counts_2 : decode cX4_counts 2 = .ok (.invokevirtual 234, 3) := by decide +kernel
theorem dX4_counts_5 : decode cX4_counts 5 = .ok (.ifCond .eq 13, 3) := by decide +kernel
theorem dX4_counts_8 : decode cX4_counts 8 = .ok (.aload_n 0, 1) := by decide +kernel
theorem dX4_counts_9 : decode cX4_counts 9 = .ok (.iload_n 2, 1) := by decide +kernel
theorem dX4_counts_10 : decode cX4_counts 10 = .ok (.invokevirtual 228, 3) := by decide +kernel
theorem dX4_counts_13 : decode cX4_counts 13 = .ok (.ifCond .eq 5, 3) := by decide +kernel
theorem dX4_counts_16 : decode cX4_counts 16 = .ok (.iconst 0, 1) := by decide +kernel
theorem dX4_counts_17 : decode cX4_counts 17 = .ok (.ireturn, 1) := by decide +kernel
theorem dX4_counts_18 : decode cX4_counts 18 = .ok (.aload_n 1, 1) := by decide +kernel
theorem dX4_counts_19 : decode cX4_counts 19 = .ok (.iconst 4, 1) := by decide +kernel
theorem dX4_counts_20 : decode cX4_counts 20 = .ok (.invokevirtual 234, 3) := by decide +kernel
theorem dX4_counts_23 : decode cX4_counts 23 = .ok (.ifCond .eq 14, 3) := by decide +kernel
theorem dX4_counts_26 : decode cX4_counts 26 = .ok (.iload_n 2, 1) := by decide +kernel
theorem dX4_counts_27 : decode cX4_counts 27 = .ok (.bipush 7, 2) := by decide +kernel
theorem dX4_counts_29 : decode cX4_counts 29 = .ok (.irem, 1) := by decide +kernel
theorem dX4_counts_30 : decode cX4_counts 30 = .ok (.bipush 6, 2) := by decide +kernel
theorem dX4_counts_32 : decode cX4_counts 32 = .ok (.if_icmp .ne 5, 3) := by decide +kernel
theorem dX4_counts_35 : decode cX4_counts 35 = .ok (.iconst 0, 1) := by decide +kernel
theorem dX4_counts_36 : decode cX4_counts 36 = .ok (.ireturn, 1) := by decide +kernel
theorem dX4_counts_37 : decode cX4_counts 37 = .ok (.aload_n 1, 1) := by decide +kernel
theorem dX4_counts_38 : decode cX4_counts 38 = .ok (.iconst 5, 1) := by decide +kernel
theorem dX4_counts_39 : decode cX4_counts 39 = .ok (.invokevirtual 234, 3) := by decide +kernel
theorem dX4_counts_42 : decode cX4_counts 42 = .ok (.ifCond .eq 13, 3) := by decide +kernel
theorem dX4_counts_45 : decode cX4_counts 45 = .ok (.aload_n 1, 1) := by decide +kernel
theorem dX4_counts_46 : decode cX4_counts 46 = .ok (.getfield 116, 3) := by decide +kernel
theorem dX4_counts_49 : decode cX4_counts 49 = .ok (.iload_n 2, 1) := by decide +kernel
theorem dX4_counts_50 : decode cX4_counts 50 = .ok (.iaload, 1) := by decide +kernel
theorem dX4_counts_51 : decode cX4_counts 51 = .ok (.iconst (-1), 1) := by decide +kernel
theorem dX4_counts_52 : decode cX4_counts 52 = .ok (.if_icmp .eq 7, 3) := by decide +kernel
theorem dX4_counts_55 : decode cX4_counts 55 = .ok (.iconst 1, 1) := by decide +kernel
theorem dX4_counts_56 : decode cX4_counts 56 = .ok (.goto 4, 3) := by decide +kernel
theorem dX4_counts_59 : decode cX4_counts 59 = .ok (.iconst 0, 1) := by decide +kernel
theorem dX4_counts_60 : decode cX4_counts 60 = .ok (.ireturn, 1) := by decide +kernel
theorem dX4_usedBy_0 : decode cX4_usedBy 0 = .ok (.iconst 0, 1) := by decide +kernel
theorem dX4_usedBy_1 : decode cX4_usedBy 1 = .ok (.istore_n 2, 1) := by decide +kernel
theorem dX4_usedBy_2 : decode cX4_usedBy 2 = .ok (.aload_n 1, 1) := by decide +kernel
theorem dX4_usedBy_3 : decode cX4_usedBy 3 = .ok (.getfield 95, 3) := by decide +kernel
theorem dX4_usedBy_6 : decode cX4_usedBy 6 = .ok (.istore_n 3, 1) := by decide +kernel
theorem dX4_usedBy_7 : decode cX4_usedBy 7 = .ok (.iload_n 3, 1) := by decide +kernel
theorem dX4_usedBy_8 : decode cX4_usedBy 8 = .ok (.aload_n 0, 1) := by decide +kernel
theorem dX4_usedBy_9 : decode cX4_usedBy 9 = .ok (.aload_n 1, 1) := by decide +kernel
theorem dX4_usedBy_10 : decode cX4_usedBy 10 = .ok (.invokevirtual 161, 3) := by decide +kernel
theorem dX4_usedBy_13 : decode cX4_usedBy 13 = .ok (.if_icmp .gt 21, 3) := by decide +kernel
theorem dX4_usedBy_16 : decode cX4_usedBy 16 = .ok (.aload_n 0, 1) := by decide +kernel
theorem dX4_usedBy_17 : decode cX4_usedBy 17 = .ok (.aload_n 1, 1) := by decide +kernel
theorem dX4_usedBy_18 : decode cX4_usedBy 18 = .ok (.iload_n 3, 1) := by decide +kernel
theorem dX4_usedBy_19 : decode cX4_usedBy 19 = .ok (.invokevirtual 164, 3) := by decide +kernel
theorem dX4_usedBy_22 : decode cX4_usedBy 22 = .ok (.ifCond .eq 6, 3) := by decide +kernel
theorem dX4_usedBy_25 : decode cX4_usedBy 25 = .ok (.iinc 2 1, 3) := by decide +kernel
theorem dX4_usedBy_28 : decode cX4_usedBy 28 = .ok (.iinc 3 1, 3) := by decide +kernel
theorem dX4_usedBy_31 : decode cX4_usedBy 31 = .ok (.goto (-24), 3) := by decide +kernel
theorem dX4_usedBy_34 : decode cX4_usedBy 34 = .ok (.iload_n 2, 1) := by decide +kernel
theorem dX4_usedBy_35 : decode cX4_usedBy 35 = .ok (.ireturn, 1) := by decide +kernel
theorem dX4_owedBy_0 : decode cX4_owedBy 0 = .ok (.aload_n 0, 1) := by decide +kernel
theorem dX4_owedBy_1 : decode cX4_owedBy 1 = .ok (.aload_n 1, 1) := by decide +kernel
theorem dX4_owedBy_2 : decode cX4_owedBy 2 = .ok (.invokevirtual 154, 3) := by decide +kernel
theorem dX4_owedBy_5 : decode cX4_owedBy 5 = .ok (.aload_n 1, 1) := by decide +kernel
theorem dX4_owedBy_6 : decode cX4_owedBy 6 = .ok (.getfield 146, 3) := by decide +kernel
theorem dX4_owedBy_9 : decode cX4_owedBy 9 = .ok (.iconst 0, 1) := by decide +kernel
theorem dX4_owedBy_10 : decode cX4_owedBy 10 = .ok (.iaload, 1) := by decide +kernel
theorem dX4_owedBy_11 : decode cX4_owedBy 11 = .ok (.isub, 1) := by decide +kernel
theorem dX4_owedBy_12 : decode cX4_owedBy 12 = .ok (.istore_n 2, 1) := by decide +kernel
theorem dX4_owedBy_13 : decode cX4_owedBy 13 = .ok (.iload_n 2, 1) := by decide +kernel
theorem dX4_owedBy_14 : decode cX4_owedBy 14 = .ok (.ifCond .le 12, 3) := by decide +kernel
theorem dX4_owedBy_17 : decode cX4_owedBy 17 = .ok (.iload_n 2, 1) := by decide +kernel
theorem dX4_owedBy_18 : decode cX4_owedBy 18 = .ok (.aload_n 1, 1) := by decide +kernel
theorem dX4_owedBy_19 : decode cX4_owedBy 19 = .ok (.getfield 146, 3) := by decide +kernel
theorem dX4_owedBy_22 : decode cX4_owedBy 22 = .ok (.iconst 1, 1) := by decide +kernel
theorem dX4_owedBy_23 : decode cX4_owedBy 23 = .ok (.iaload, 1) := by decide +kernel
theorem dX4_owedBy_24 : decode cX4_owedBy 24 = .ok (.imul, 1) := by decide +kernel
theorem dX4_owedBy_25 : decode cX4_owedBy 25 = .ok (.ireturn, 1) := by decide +kernel
theorem dX4_owedBy_26 : decode cX4_owedBy 26 = .ok (.aload_n 1, 1) := by decide +kernel
theorem dX4_owedBy_27 : decode cX4_owedBy 27 = .ok (.invokevirtual 119, 3) := by decide +kernel
theorem dX4_owedBy_30 : decode cX4_owedBy 30 = .ok (.ifCond .eq 14, 3) := by decide +kernel
theorem dX4_owedBy_33 : decode cX4_owedBy 33 = .ok (.iload_n 2, 1) := by decide +kernel
theorem dX4_owedBy_34 : decode cX4_owedBy 34 = .ok (.aload_n 1, 1) := by decide +kernel
theorem dX4_owedBy_35 : decode cX4_owedBy 35 = .ok (.getfield 146, 3) := by decide +kernel
theorem dX4_owedBy_38 : decode cX4_owedBy 38 = .ok (.iconst 2, 1) := by decide +kernel
theorem dX4_owedBy_39 : decode cX4_owedBy 39 = .ok (.iaload, 1) := by decide +kernel
theorem dX4_owedBy_40 : decode cX4_owedBy 40 = .ok (.imul, 1) := by decide +kernel
theorem dX4_owedBy_41 : decode cX4_owedBy 41 = .ok (.goto 4, 3) := by decide +kernel
theorem dX4_owedBy_44 : decode cX4_owedBy 44 = .ok (.iconst 0, 1) := by decide +kernel
theorem dX4_owedBy_45 : decode cX4_owedBy 45 = .ok (.ireturn, 1) := by decide +kernel
theorem dX4_shareOf_0 : decode cX4_shareOf 0 = .ok (.aload_n 0, 1) := by decide +kernel
theorem dX4_shareOf_1 : decode cX4_shareOf 1 = .ok (.iload_n 2, 1) := by decide +kernel
theorem dX4_shareOf_2 : decode cX4_shareOf 2 = .ok (.invokevirtual 231, 3) := by decide +kernel
theorem dX4_shareOf_5 : decode cX4_shareOf 5 = .ok (.ifCond .eq 5, 3) := by decide +kernel
theorem dX4_shareOf_8 : decode cX4_shareOf 8 = .ok (.iconst 0, 1) := by decide +kernel
theorem dX4_shareOf_9 : decode cX4_shareOf 9 = .ok (.ireturn, 1) := by decide +kernel
theorem dX4_shareOf_10 : decode cX4_shareOf 10 = .ok (.aload_n 1, 1) := by decide +kernel
theorem dX4_shareOf_11 : decode cX4_shareOf 11 = .ok (.getfield 116, 3) := by decide +kernel
theorem dX4_shareOf_14 : decode cX4_shareOf 14 = .ok (.iload_n 2, 1) := by decide +kernel
theorem dX4_shareOf_15 : decode cX4_shareOf 15 = .ok (.iaload, 1) := by decide +kernel
theorem dX4_shareOf_16 : decode cX4_shareOf 16 = .ok (.ifCond .ne 7, 3) := by decide +kernel
theorem dX4_shareOf_19 : decode cX4_shareOf 19 = .ok (.iconst 1, 1) := by decide +kernel
theorem dX4_shareOf_20 : decode cX4_shareOf 20 = .ok (.goto 4, 3) := by decide +kernel
theorem dX4_shareOf_23 : decode cX4_shareOf 23 = .ok (.iconst 2, 1) := by decide +kernel
theorem dX4_shareOf_24 : decode cX4_shareOf 24 = .ok (.ireturn, 1) := by decide +kernel
end
section
theorem dX5_init_0 : decode cX5_init 0 = .ok (.aload_n 0, 1) := by decide +kernel
theorem dX5_init_1 : decode cX5_init 1 = .ok (.invokespecial 1, 3) := by decide +kernel
theorem dX5_init_4 : decode cX5_init 4 = .ok (.aload_n 0, 1) := by decide +kernel
theorem dX5_init_5 : decode cX5_init 5 = .ok (.sipush 201, 3) := by decide +kernel
theorem dX5_init_8 : decode cX5_init 8 = .ok (.newarray .int, 2) := by decide +kernel
theorem dX5_init_10 : decode cX5_init 10 = .ok (.putfield 7, 3) := by decide +kernel
theorem dX5_init_13 : decode cX5_init 13 = .ok (.aload_n 0, 1) := by decide +kernel
theorem dX5_init_14 : decode cX5_init 14 = .ok (.bipush 6, 2) := by decide +kernel
theorem dX5_init_16 : decode cX5_init 16 = .ok (.newarray .int, 2) := by decide +kernel
theorem dX5_init_18 : decode cX5_init 18 = .ok (.putfield 13, 3) := by decide +kernel
theorem dX5_init_21 : decode cX5_init 21 = .ok (.aload_n 0, 1) := by decide +kernel
theorem dX5_init_22 : decode cX5_init 22 = .ok (.bipush 6, 2) := by decide +kernel
theorem dX5_init_24 : decode cX5_init 24 = .ok (.newarray .int, 2) := by decide +kernel
theorem dX5_init_26 : decode cX5_init 26 = .ok (.putfield 16, 3) := by decide +kernel
theorem dX5_init_29 : decode cX5_init 29 = .ok (.aload_n 0, 1) := by decide +kernel
theorem dX5_init_30 : decode cX5_init 30 = .ok (.bipush 10, 2) := by decide +kernel
theorem dX5_init_32 : decode cX5_init 32 = .ok (.newarray .int, 2) := by decide +kernel
theorem dX5_init_34 : decode cX5_init 34 = .ok (.putfield 19, 3) := by decide +kernel
theorem dX5_init_37 : decode cX5_init 37 = .ok (.aload_n 0, 1) := by decide +kernel
theorem dX5_init_38 : decode cX5_init 38 = .ok (.bipush 10, 2) := by decide +kernel
theorem dX5_init_40 : decode cX5_init 40 = .ok (.newarray .int, 2) := by decide +kernel
theorem dX5_init_42 : decode cX5_init 42 = .ok (.putfield 22, 3) := by decide +kernel
theorem dX5_init_45 : decode cX5_init 45 = .ok (.aload_n 0, 1) := by decide +kernel
theorem dX5_init_46 : decode cX5_init 46 = .ok (.bipush 10, 2) := by decide +kernel
theorem dX5_init_48 : decode cX5_init 48 = .ok (.newarray .int, 2) := by decide +kernel
theorem dX5_init_50 : decode cX5_init 50 = .ok (.putfield 25, 3) := by decide +kernel
theorem dX5_init_53 : decode cX5_init 53 = .ok (.aload_n 0, 1) := by decide +kernel
theorem dX5_init_54 : decode cX5_init 54 = .ok (.bipush 10, 2) := by decide +kernel
theorem dX5_init_56 : decode cX5_init 56 = .ok (.newarray .int, 2) := by decide +kernel
theorem dX5_init_58 : decode cX5_init 58 = .ok (.putfield 28, 3) := by decide +kernel
theorem dX5_init_61 : decode cX5_init 61 = .ok (.aload_n 0, 1) := by decide +kernel
theorem dX5_init_62 : decode cX5_init 62 = .ok (.bipush 10, 2) := by decide +kernel
theorem dX5_init_64 : decode cX5_init 64 = .ok (.newarray .int, 2) := by decide +kernel
theorem dX5_init_66 : decode cX5_init 66 = .ok (.putfield 31, 3) := by decide +kernel
theorem dX5_init_69 : decode cX5_init 69 = .ok (.aload_n 0, 1) := by decide +kernel
theorem dX5_init_70 : decode cX5_init 70 = .ok (.bipush 60, 2) := by decide +kernel
theorem dX5_init_72 : decode cX5_init 72 = .ok (.newarray .int, 2) := by decide +kernel
theorem dX5_init_74 : decode cX5_init 74 = .ok (.putfield 34, 3) := by decide +kernel
theorem dX5_init_77 : decode cX5_init 77 = .ok (.aload_n 0, 1) := by decide +kernel
theorem dX5_init_78 : decode cX5_init 78 = .ok (.sipush 2010, 3) := by decide +kernel
theorem dX5_init_81 : decode cX5_init 81 = .ok (.newarray .int, 2) := by decide +kernel
theorem dX5_init_83 : decode cX5_init 83 = .ok (.putfield 37, 3) := by decide +kernel
theorem dX5_init_86 : decode cX5_init 86 = .ok (.aload_n 0, 1) := by decide +kernel
theorem dX5_init_87 : decode cX5_init 87 = .ok (.sipush 201, 3) := by decide +kernel
theorem dX5_init_90 : decode cX5_init 90 = .ok (.newarray .int, 2) := by decide +kernel
theorem dX5_init_92 : decode cX5_init 92 = .ok (.putfield 40, 3) := by decide +kernel
theorem dX5_init_95 : decode cX5_init 95 = .ok (.aload_n 0, 1) := by decide +kernel
theorem dX5_init_96 : decode cX5_init 96 = .ok (.sipush 201, 3) := by decide +kernel
theorem dX5_init_99 : decode cX5_init 99 = .ok (.newarray .int, 2) := by decide +kernel
theorem dX5_init_101 : decode cX5_init 101 = .ok (.putfield 43, 3) := by decide +kernel
theorem dX5_init_104 : decode cX5_init 104 = .ok (.aload_n 0, 1) := by decide +kernel
theorem dX5_init_105 : decode cX5_init 105 = .ok (.sipush 201, 3) := by decide +kernel
theorem dX5_init_108 : decode cX5_init 108 = .ok (.newarray .int, 2) := by decide +kernel
theorem dX5_init_110 : decode cX5_init 110 = .ok (.putfield 46, 3) := by decide +kernel
theorem dX5_init_113 : decode cX5_init 113 = .ok (.aload_n 0, 1) := by decide +kernel
theorem dX5_init_114 : decode cX5_init 114 = .ok (.bipush 20, 2) := by decide +kernel
theorem dX5_init_116 : decode cX5_init 116 = .ok (.putfield 49, 3) := by decide +kernel
theorem dX5_init_119 : decode cX5_init 119 = .ok (.aload_n 0, 1) := by decide +kernel
theorem dX5_init_120 : decode cX5_init 120 = .ok (.bipush 30, 2) := by decide +kernel
theorem dX5_init_122 : decode cX5_init 122 = .ok (.newarray .int, 2) := by decide +kernel
theorem dX5_init_124 : decode cX5_init 124 = .ok (.putfield 53, 3) := by decide +kernel
theorem dX5_init_127 : decode cX5_init 127 = .ok (.aload_n 0, 1) := by decide +kernel
theorem dX5_init_128 : decode cX5_init 128 = .ok (.bipush 60, 2) := by decide +kernel
theorem dX5_init_130 : decode cX5_init 130 = .ok (.newarray .int, 2) := by decide +kernel
theorem dX5_init_132 : decode cX5_init 132 = .ok (.putfield 56, 3) := by decide +kernel
theorem dX5_init_135 : decode cX5_init 135 = .ok (.aload_n 0, 1) := by decide +kernel
theorem dX5_init_136 : decode cX5_init 136 = .ok (.bipush 6, 2) := by decide +kernel
theorem dX5_init_138 : decode cX5_init 138 = .ok (.newarray .int, 2) := by decide +kernel
theorem dX5_init_140 : decode cX5_init 140 = .ok (.putfield 59, 3) := by decide +kernel
theorem dX5_init_143 : decode cX5_init 143 = .ok (.aload_n 0, 1) := by decide +kernel
theorem dX5_init_144 : decode cX5_init 144 = .ok (.bipush 10, 2) := by decide +kernel
theorem dX5_init_146 : decode cX5_init 146 = .ok (.newarray .boolean, 2) := by decide +kernel
theorem dX5_init_148 : decode cX5_init 148 = .ok (.putfield 62, 3) := by decide +kernel
theorem dX5_init_151 : decode cX5_init 151 = .ok (.aload_n 0, 1) := by decide +kernel
theorem dX5_init_152 : decode cX5_init 152 = .ok (.iconst 0, 1) := by decide +kernel
theorem dX5_init_153 : decode cX5_init 153 = .ok (.putfield 66, 3) := by decide +kernel
theorem dX5_init_156 : decode cX5_init 156 = .ok (.return_, 1) := by decide +kernel
theorem dX5_in_0 : decode cX5_in 0 = .ok (.iload_n 0, 1) := by decide +kernel
theorem dX5_in_1 : decode cX5_in 1 = .ok (.iload_n 1, 1) := by decide +kernel
theorem dX5_in_2 : decode cX5_in 2 = .ok (.if_icmp .lt 12, 3) := by decide +kernel
theorem dX5_in_5 : decode cX5_in 5 = .ok (.iload_n 0, 1) := by decide +kernel
theorem dX5_in_6 : decode cX5_in 6 = .ok (.iload_n 2, 1) := by decide +kernel
theorem dX5_in_7 : decode cX5_in 7 = .ok (.if_icmp .gt 7, 3) := by decide +kernel
theorem dX5_in_10 : decode cX5_in 10 = .ok (.iconst 1, 1) := by decide +kernel
theorem dX5_in_11 : decode cX5_in 11 = .ok (.goto 4, 3) := by decide +kernel
theorem dX5_in_14 : decode cX5_in 14 = .ok (.iconst 0, 1) := by decide +kernel
theorem dX5_in_15 : decode cX5_in 15 = .ok (.ireturn, 1) := by decide +kernel
theorem dX5_layer_0 : decode cX5_layer 0 = .ok (.aload_n 0, 1) := by decide +kernel
theorem dX5_layer_1 : decode cX5_layer 1 = .ok (.iconst 0, 1) := by decide +kernel
theorem dX5_layer_2 : decode cX5_layer 2 = .ok (.putfield 66, 3) := by decide +kernel
theorem dX5_layer_5 : decode cX5_layer 5 = .ok (.iload_n 1, 1) := by decide +kernel
theorem dX5_layer_6 : decode cX5_layer 6 = .ok (.iconst 1, 1) := by decide +kernel
theorem dX5_layer_7 : decode cX5_layer 7 = .ok (.sipush 5000, 3) := by decide +kernel
theorem dX5_layer_10 : decode cX5_layer 10 = .ok (.invokestatic 69, 3) := by decide +kernel
theorem dX5_layer_13 : decode cX5_layer 13 = .ok (.ifCond .eq 13, 3) := by decide +kernel
theorem dX5_layer_16 : decode cX5_layer 16 = .ok (.iload_n 2, 1) := by decide +kernel
theorem dX5_layer_17 : decode cX5_layer 17 = .ok (.iconst 1, 1) := by decide +kernel
theorem dX5_layer_18 : decode cX5_layer 18 = .ok (.bipush 100, 2) := by decide +kernel
theorem dX5_layer_20 : decode cX5_layer 20 = .ok (.invokestatic 69, 3) := by decide +kernel
theorem dX5_layer_23 : decode cX5_layer 23 = .ok (.ifCond .ne 5, 3) := by decide +kernel
theorem dX5_layer_26 : decode cX5_layer 26 = .ok (.iconst (-1), 1) := by decide +kernel
theorem dX5_layer_27 : decode cX5_layer 27 = .ok (.ireturn, 1) := by decide +kernel
theorem dX5_layer_28 : decode cX5_layer 28 = .ok (.aload_n 0, 1) := by decide +kernel
theorem dX5_layer_29 : decode cX5_layer 29 = .ok (.getfield 73, 3) := by decide +kernel
theorem dX5_layer_32 : decode cX5_layer 32 = .ok (.bipush 6, 2) := by decide +kernel
theorem dX5_layer_34 : decode cX5_layer 34 = .ok (.if_icmp .ne 6, 3) := by decide +kernel
theorem dX5_layer_37 : decode cX5_layer 37 = .ok (.bipush (-3), 2) := by decide +kernel
theorem dX5_layer_39 : decode cX5_layer 39 = .ok (.ireturn, 1) := by decide +kernel
theorem dX5_layer_40 : decode cX5_layer 40 = .ok (.aload_n 0, 1) := by decide +kernel
theorem dX5_layer_41 : decode cX5_layer 41 = .ok (.getfield 13, 3) := by decide +kernel
theorem dX5_layer_44 : decode cX5_layer 44 = .ok (.aload_n 0, 1) := by decide +kernel
theorem dX5_layer_45 : decode cX5_layer 45 = .ok (.getfield 73, 3) := by decide +kernel
theorem dX5_layer_48 : decode cX5_layer 48 = .ok (.iload_n 1, 1) := by decide +kernel
theorem dX5_layer_49 : decode cX5_layer 49 = .ok (.iastore, 1) := by decide +kernel
theorem dX5_layer_50 : decode cX5_layer 50 = .ok (.aload_n 0, 1) := by decide +kernel
theorem dX5_layer_51 : decode cX5_layer 51 = .ok (.getfield 16, 3) := by decide +kernel
theorem dX5_layer_54 : decode cX5_layer 54 = .ok (.aload_n 0, 1) := by decide +kernel
theorem dX5_layer_55 : decode cX5_layer 55 = .ok (.getfield 73, 3) := by decide +kernel
theorem dX5_layer_58 : decode cX5_layer 58 = .ok (.iload_n 2, 1) := by decide +kernel
theorem dX5_layer_59 : decode cX5_layer 59 = .ok (.iastore, 1) := by decide +kernel
theorem dX5_layer_60 : decode cX5_layer 60 = .ok (.aload_n 0, 1) := by decide +kernel
theorem dX5_layer_61 : decode cX5_layer 61 = .ok (.dup, 1) := by decide +kernel
theorem dX5_layer_62 : decode cX5_layer 62 = .ok (.getfield 73, 3) := by decide +kernel
theorem dX5_layer_65 : decode cX5_layer 65 = .ok (.iconst 1, 1) := by decide +kernel
theorem dX5_layer_66 : decode cX5_layer 66 = .ok (.iadd, 1) := by decide +kernel
theorem dX5_layer_67 : decode cX5_layer 67 = .ok (.putfield 73, 3) := by decide +kernel
theorem dX5_layer_70 : decode cX5_layer 70 = .ok (.aload_n 0, 1) := by decide +kernel
theorem dX5_layer_71 : decode cX5_layer 71 = .ok (.getfield 73, 3) := by decide +kernel
theorem dX5_layer_74 : decode cX5_layer 74 = .ok (.iconst 1, 1) := by decide +kernel
theorem dX5_layer_75 : decode cX5_layer 75 = .ok (.isub, 1) := by decide +kernel
theorem dX5_layer_76 : decode cX5_layer 76 = .ok (.ireturn, 1) := by decide +kernel
theorem dX5_left_0 : decode cX5_left 0 = .ok (.aload_n 0, 1) := by decide +kernel
theorem dX5_left_1 : decode cX5_left 1 = .ok (.iconst 0, 1) := by decide +kernel
theorem dX5_left_2 : decode cX5_left 2 = .ok (.putfield 66, 3) := by decide +kernel
theorem dX5_left_5 : decode cX5_left 5 = .ok (.iload_n 1, 1) := by decide +kernel
theorem dX5_left_6 : decode cX5_left 6 = .ok (.iconst 0, 1) := by decide +kernel
theorem dX5_left_7 : decode cX5_left 7 = .ok (.aload_n 0, 1) := by decide +kernel
theorem dX5_left_8 : decode cX5_left 8 = .ok (.getfield 73, 3) := by decide +kernel
theorem dX5_left_11 : decode cX5_left 11 = .ok (.iconst 1, 1) := by decide +kernel
theorem dX5_left_12 : decode cX5_left 12 = .ok (.isub, 1) := by decide +kernel
theorem dX5_left_13 : decode cX5_left 13 = .ok (.invokestatic 69, 3) := by decide +kernel
theorem dX5_left_16 : decode cX5_left 16 = .ok (.ifCond .eq 12, 3) := by decide +kernel
theorem dX5_left_19 : decode cX5_left 19 = .ok (.aload_n 0, 1) := by decide +kernel
theorem dX5_left_20 : decode cX5_left 20 = .ok (.getfield 13, 3) := by decide +kernel
theorem dX5_left_23 : decode cX5_left 23 = .ok (.iload_n 1, 1) := by decide +kernel
theorem dX5_left_24 : decode cX5_left 24 = .ok (.iaload, 1) := by decide +kernel
theorem dX5_left_25 : decode cX5_left 25 = .ok (.goto 4, 3) := by decide +kernel
theorem dX5_left_28 : decode cX5_left 28 = .ok (.iconst (-1), 1) := by decide +kernel
theorem dX5_left_29 : decode cX5_left 29 = .ok (.ireturn, 1) := by decide +kernel
theorem dX5_swell_0 : decode cX5_swell 0 = .ok (.aload_n 0, 1) := by decide +kernel
theorem dX5_swell_1 : decode cX5_swell 1 = .ok (.iconst 0, 1) := by decide +kernel
theorem dX5_swell_2 : decode cX5_swell 2 = .ok (.putfield 66, 3) := by decide +kernel
theorem dX5_swell_5 : decode cX5_swell 5 = .ok (.iload_n 1, 1) := by decide +kernel
theorem dX5_swell_6 : decode cX5_swell 6 = .ok (.aload_n 0, 1) := by decide +kernel
theorem dX5_swell_7 : decode cX5_swell 7 = .ok (.getfield 76, 3) := by decide +kernel
theorem dX5_swell_10 : decode cX5_swell 10 = .ok (.sipush 200, 3) := by decide +kernel
theorem dX5_swell_13 : decode cX5_swell 13 = .ok (.invokestatic 69, 3) := by decide +kernel
theorem dX5_swell_16 : decode cX5_swell 16 = .ok (.ifCond .eq 13, 3) := by decide +kernel
theorem dX5_swell_19 : decode cX5_swell 19 = .ok (.iload_n 2, 1) := by decide +kernel
theorem dX5_swell_20 : decode cX5_swell 20 = .ok (.iconst 0, 1) := by decide +kernel
theorem dX5_swell_21 : decode cX5_swell 21 = .ok (.bipush 9, 2) := by decide +kernel
theorem dX5_swell_23 : decode cX5_swell 23 = .ok (.invokestatic 69, 3) := by decide +kernel
theorem dX5_swell_26 : decode cX5_swell 26 = .ok (.ifCond .ne 5, 3) := by decide +kernel
theorem dX5_swell_29 : decode cX5_swell 29 = .ok (.iconst (-1), 1) := by decide +kernel
theorem dX5_swell_30 : decode cX5_swell 30 = .ok (.ireturn, 1) := by decide +kernel
theorem dX5_swell_31 : decode cX5_swell 31 = .ok (.aload_n 0, 1) := by decide +kernel
theorem dX5_swell_32 : decode cX5_swell 32 = .ok (.getfield 7, 3) := by decide +kernel
theorem dX5_swell_35 : decode cX5_swell 35 = .ok (.iload_n 1, 1) := by decide +kernel
theorem dX5_swell_36 : decode cX5_swell 36 = .ok (.iaload, 1) := by decide +kernel
theorem dX5_swell_37 : decode cX5_swell 37 = .ok (.istore_n 3, 1) := by decide +kernel
theorem dX5_swell_38 : decode cX5_swell 38 = .ok (.aload_n 0, 1) := by decide +kernel
theorem dX5_swell_39 : decode cX5_swell 39 = .ok (.getfield 7, 3) := by decide +kernel
theorem dX5_swell_42 : decode cX5_swell 42 = .ok (.iload_n 1, 1) := by decide +kernel
theorem dX5_swell_43 : decode cX5_swell 43 = .ok (.iload_n 2, 1) := by decide +kernel
theorem dX5_swell_44 : decode cX5_swell 44 = .ok (.iastore, 1) := by decide +kernel
theorem dX5_swell_45 : decode cX5_swell 45 = .ok (.iload_n 3, 1) := by decide +kernel
theorem dX5_swell_46 : decode cX5_swell 46 = .ok (.ireturn, 1) := by decide +kernel
theorem dX5_isShip_0 : decode cX5_isShip 0 = .ok (.iload_n 1, 1) := by decide +kernel
theorem dX5_isShip_1 : decode cX5_isShip 1 = .ok (.iconst 0, 1) := by decide +kernel
theorem dX5_isShip_2 : decode cX5_isShip 2 = .ok (.aload_n 0, 1) := by decide +kernel
theorem dX5_isShip_3 : decode cX5_isShip 3 = .ok (.getfield 79, 3) := by decide +kernel
theorem dX5_isShip_6 : decode cX5_isShip 6 = .ok (.iconst 1, 1) := by decide +kernel
theorem dX5_isShip_7 : decode cX5_isShip 7 = .ok (.isub, 1) := by decide +kernel
theorem dX5_isShip_8 : decode cX5_isShip 8 = .ok (.invokestatic 69, 3) := by decide +kernel
theorem dX5_isShip_11 : decode cX5_isShip 11 = .ok (.ireturn, 1) := by decide +kernel
theorem dX5_ship_0 : decode cX5_ship 0 = .ok (.aload_n 0, 1) := by decide +kernel
theorem dX5_ship_1 : decode cX5_ship 1 = .ok (.iconst 0, 1) := by decide +kernel
theorem dX5_ship_2 : decode cX5_ship 2 = .ok (.putfield 66, 3) := by decide +kernel
theorem dX5_ship_5 : decode cX5_ship 5 = .ok (.iload_n 1, 1) := by decide +kernel
theorem dX5_ship_6 : decode cX5_ship 6 = .ok (.iconst 0, 1) := by decide +kernel
theorem dX5_ship_7 : decode cX5_ship 7 = .ok (.iconst 2, 1) := by decide +kernel
theorem dX5_ship_8 : decode cX5_ship 8 = .ok (.invokestatic 69, 3) := by decide +kernel
theorem dX5_ship_11 : decode cX5_ship 11 = .ok (.ifCond .eq 24, 3) := by decide +kernel
theorem dX5_ship_14 : decode cX5_ship 14 = .ok (.iload_n 2, 1) := by decide +kernel
theorem dX5_ship_15 : decode cX5_ship 15 = .ok (.iconst 1, 1) := by decide +kernel
theorem dX5_ship_16 : decode cX5_ship 16 = .ok (.sipush 900, 3) := by decide +kernel
theorem dX5_ship_19 : decode cX5_ship 19 = .ok (.invokestatic 69, 3) := by decide +kernel
theorem dX5_ship_22 : decode cX5_ship 22 = .ok (.ifCond .eq 13, 3) := by decide +kernel
theorem dX5_ship_25 : decode cX5_ship 25 = .ok (.iload_n 3, 1) := by decide +kernel
theorem dX5_ship_26 : decode cX5_ship 26 = .ok (.iconst 1, 1) := by decide +kernel
theorem dX5_ship_27 : decode cX5_ship 27 = .ok (.bipush 90, 2) := by decide +kernel
theorem dX5_ship_29 : decode cX5_ship 29 = .ok (.invokestatic 69, 3) := by decide +kernel
theorem dX5_ship_32 : decode cX5_ship 32 = .ok (.ifCond .ne 5, 3) := by decide +kernel
theorem dX5_ship_35 : decode cX5_ship 35 = .ok (.iconst (-1), 1) := by decide +kernel
theorem dX5_ship_36 : decode cX5_ship 36 = .ok (.ireturn, 1) := by decide +kernel
theorem dX5_ship_37 : decode cX5_ship 37 = .ok (.aload_n 0, 1) := by decide +kernel
theorem dX5_ship_38 : decode cX5_ship 38 = .ok (.getfield 79, 3) := by decide +kernel
theorem dX5_ship_41 : decode cX5_ship 41 = .ok (.bipush 10, 2) := by decide +kernel
theorem dX5_ship_43 : decode cX5_ship 43 = .ok (.if_icmp .ne 6, 3) := by decide +kernel
theorem dX5_ship_46 : decode cX5_ship 46 = .ok (.bipush (-3), 2) := by decide +kernel
theorem dX5_ship_48 : decode cX5_ship 48 = .ok (.ireturn, 1) := by decide +kernel
theorem dX5_ship_49 : decode cX5_ship 49 = .ok (.aload_n 0, 1) := by decide +kernel
theorem dX5_ship_50 : decode cX5_ship 50 = .ok (.getfield 19, 3) := by decide +kernel
theorem dX5_ship_53 : decode cX5_ship 53 = .ok (.aload_n 0, 1) := by decide +kernel
theorem dX5_ship_54 : decode cX5_ship 54 = .ok (.getfield 79, 3) := by decide +kernel
theorem dX5_ship_57 : decode cX5_ship 57 = .ok (.iload_n 1, 1) := by decide +kernel
theorem dX5_ship_58 : decode cX5_ship 58 = .ok (.iastore, 1) := by decide +kernel
theorem dX5_ship_59 : decode cX5_ship 59 = .ok (.aload_n 0, 1) := by decide +kernel
theorem dX5_ship_60 : decode cX5_ship 60 = .ok (.getfield 22, 3) := by decide +kernel
theorem dX5_ship_63 : decode cX5_ship 63 = .ok (.aload_n 0, 1) := by decide +kernel
theorem dX5_ship_64 : decode cX5_ship 64 = .ok (.getfield 79, 3) := by decide +kernel
theorem dX5_ship_67 : decode cX5_ship 67 = .ok (.aload_n 0, 1) := by decide +kernel
theorem dX5_ship_68 : decode cX5_ship 68 = .ok (.getfield 76, 3) := by decide +kernel
theorem dX5_ship_71 : decode cX5_ship 71 = .ok (.iastore, 1) := by decide +kernel
theorem dX5_ship_72 : decode cX5_ship 72 = .ok (.aload_n 0, 1) := by decide +kernel
theorem dX5_ship_73 : decode cX5_ship 73 = .ok (.getfield 25, 3) := by decide +kernel
theorem dX5_ship_76 : decode cX5_ship 76 = .ok (.aload_n 0, 1) := by decide +kernel
theorem dX5_ship_77 : decode cX5_ship 77 = .ok (.getfield 79, 3) := by decide +kernel
theorem dX5_ship_80 : decode cX5_ship 80 = .ok (.iload_n 2, 1) := by decide +kernel
theorem dX5_ship_81 : decode cX5_ship 81 = .ok (.iastore, 1) := by decide +kernel
theorem dX5_ship_82 : decode cX5_ship 82 = .ok (.aload_n 0, 1) := by decide +kernel
theorem dX5_ship_83 : decode cX5_ship 83 = .ok (.getfield 28, 3) := by decide +kernel
theorem dX5_ship_86 : decode cX5_ship 86 = .ok (.aload_n 0, 1) := by decide +kernel
theorem dX5_ship_87 : decode cX5_ship 87 = .ok (.getfield 79, 3) := by decide +kernel
theorem dX5_ship_90 : decode cX5_ship 90 = .ok (.iload_n 3, 1) := by decide +kernel
theorem dX5_ship_91 : decode cX5_ship 91 = .ok (.iastore, 1) := by decide +kernel
theorem dX5_ship_92 : decode cX5_ship 92 = .ok (.aload_n 0, 1) := by decide +kernel
theorem dX5_ship_93 : decode cX5_ship 93 = .ok (.getfield 31, 3) := by decide +kernel
theorem dX5_ship_96 : decode cX5_ship 96 = .ok (.aload_n 0, 1) := by decide +kernel
theorem dX5_ship_97 : decode cX5_ship 97 = .ok (.getfield 79, 3) := by decide +kernel
theorem dX5_ship_100 : decode cX5_ship 100 = .ok (.bipush (-9), 2) := by decide +kernel
theorem dX5_ship_102 : decode cX5_ship 102 = .ok (.iastore, 1) := by decide +kernel
theorem dX5_ship_103 : decode cX5_ship 103 = .ok (.aload_n 0, 1) := by decide +kernel
theorem dX5_ship_104 : decode cX5_ship 104 = .ok (.dup, 1) := by decide +kernel
theorem dX5_ship_105 : decode cX5_ship 105 = .ok (.getfield 79, 3) := by decide +kernel
theorem dX5_ship_108 : decode cX5_ship 108 = .ok (.iconst 1, 1) := by decide +kernel
theorem dX5_ship_109 : decode cX5_ship 109 = .ok (.iadd, 1) := by decide +kernel
theorem dX5_ship_110 : decode cX5_ship 110 = .ok (.putfield 79, 3) := by decide +kernel
theorem dX5_ship_113 : decode cX5_ship 113 = .ok (.aload_n 0, 1) := by decide +kernel
theorem dX5_ship_114 : decode cX5_ship 114 = .ok (.getfield 79, 3) := by decide +kernel
theorem dX5_ship_117 : decode cX5_ship 117 = .ok (.iconst 1, 1) := by decide +kernel
theorem dX5_ship_118 : decode cX5_ship 118 = .ok (.isub, 1) := by decide +kernel
theorem dX5_ship_119 : decode cX5_ship 119 = .ok (.ireturn, 1) := by decide +kernel
theorem dX5_turnOf_0 : decode cX5_turnOf 0 = .ok (.bipush 10, 2) := by decide +kernel
theorem dX5_turnOf_2 : decode cX5_turnOf 2 = .ok (.aload_n 0, 1) := by decide +kernel
theorem dX5_turnOf_3 : decode cX5_turnOf 3 = .ok (.getfield 22, 3) := by decide +kernel
theorem dX5_turnOf_6 : decode cX5_turnOf 6 = .ok (.iload_n 1, 1) := by decide +kernel
theorem dX5_turnOf_7 : decode cX5_turnOf 7 = .ok (.iaload, 1) := by decide +kernel
theorem dX5_turnOf_8 : decode cX5_turnOf 8 = .ok (.imul, 1) := by decide +kernel
theorem dX5_turnOf_9 : decode cX5_turnOf 9 = .ok (.iload_n 1, 1) := by decide +kernel
theorem dX5_turnOf_10 : decode cX5_turnOf 10 = .ok (.iadd, 1) := by decide +kernel
theorem dX5_turnOf_11 : decode cX5_turnOf 11 = .ok (.istore_n 2, 1) := by decide +kernel
theorem dX5_turnOf_12 : decode cX5_turnOf 12 = .ok (.aload_n 0, 1) := by decide +kernel
theorem dX5_turnOf_13 : decode cX5_turnOf 13 = .ok (.getfield 19, 3) := by decide +kernel
theorem dX5_turnOf_16 : decode cX5_turnOf 16 = .ok (.iload_n 1, 1) := by decide +kernel
theorem dX5_turnOf_17 : decode cX5_turnOf 17 = .ok (.iaload, 1) := by decide +kernel
theorem dX5_turnOf_18 : decode cX5_turnOf 18 = .ok (.ifCond .le 9, 3) := by decide +kernel
theorem dX5_turnOf_21 : decode cX5_turnOf 21 = .ok (.iinc 2 (-500), 6) := by decide +kernel
theorem dX5_turnOf_27 : decode cX5_turnOf 27 = .ok (.aload_n 0, 1) := by decide +kernel
theorem dX5_turnOf_28 : decode cX5_turnOf 28 = .ok (.getfield 19, 3) := by decide +kernel
theorem dX5_turnOf_31 : decode cX5_turnOf 31 = .ok (.iload_n 1, 1) := by decide +kernel
theorem dX5_turnOf_32 : decode cX5_turnOf 32 = .ok (.iaload, 1) := by decide +kernel
theorem dX5_turnOf_33 : decode cX5_turnOf 33 = .ok (.iconst 2, 1) := by decide +kernel
theorem dX5_turnOf_34 : decode cX5_turnOf 34 = .ok (.if_icmp .ne 27, 3) := by decide +kernel
theorem dX5_turnOf_37 : decode cX5_turnOf 37 = .ok (.aload_n 0, 1) := by decide +kernel
theorem dX5_turnOf_38 : decode cX5_turnOf 38 = .ok (.getfield 76, 3) := by decide +kernel
theorem dX5_turnOf_41 : decode cX5_turnOf 41 = .ok (.aload_n 0, 1) := by decide +kernel
theorem dX5_turnOf_42 : decode cX5_turnOf 42 = .ok (.getfield 22, 3) := by decide +kernel
theorem dX5_turnOf_45 : decode cX5_turnOf 45 = .ok (.iload_n 1, 1) := by decide +kernel
theorem dX5_turnOf_46 : decode cX5_turnOf 46 = .ok (.iaload, 1) := by decide +kernel
theorem dX5_turnOf_47 : decode cX5_turnOf 47 = .ok (.isub, 1) := by decide +kernel
theorem dX5_turnOf_48 : decode cX5_turnOf 48 = .ok (.bipush 9, 2) := by decide +kernel
theorem dX5_turnOf_50 : decode cX5_turnOf 50 = .ok (.if_icmp .ge 11, 3) := by decide +kernel
theorem dX5_turnOf_53 : decode cX5_turnOf 53 = .ok (.iload_n 2, 1) := by decide +kernel
theorem dX5_turnOf_54 : decode cX5_turnOf 54 = .ok (.sipush 5000, 3) := by decide +kernel
theorem dX5_turnOf_57 : decode cX5_turnOf 57 = .ok (.iadd, 1) := by decide +kernel
theorem dX5_turnOf_58 : decode cX5_turnOf 58 = .ok (.goto 4, 3) := by decide +kernel
theorem dX5_turnOf_61 : decode cX5_turnOf 61 = .ok (.iload_n 2, 1) := by decide +kernel
theorem dX5_turnOf_62 : decode cX5_turnOf 62 = .ok (.ireturn, 1) := by decide +kernel
theorem dX5_turn_0 : decode cX5_turn 0 = .ok (.aload_n 0, 1) := by decide +kernel
theorem dX5_turn_1 : decode cX5_turn 1 = .ok (.iconst 0, 1) := by decide +kernel
theorem dX5_turn_2 : decode cX5_turn 2 = .ok (.putfield 66, 3) := by decide +kernel
theorem dX5_turn_5 : decode cX5_turn 5 = .ok (.aload_n 0, 1) := by decide +kernel
theorem dX5_turn_6 : decode cX5_turn 6 = .ok (.iload_n 1, 1) := by decide +kernel
theorem dX5_turn_7 : decode cX5_turn 7 = .ok (.invokevirtual 82, 3) := by decide +kernel
theorem dX5_turn_10 : decode cX5_turn 10 = .ok (.ifCond .ne 5, 3) := by decide +kernel
theorem dX5_turn_13 : decode cX5_turn 13 = .ok (.iconst (-1), 1) := by decide +kernel
theorem dX5_turn_14 : decode cX5_turn 14 = .ok (.ireturn, 1) := by decide +kernel
theorem dX5_turn_15 : decode cX5_turn 15 = .ok (.aload_n 0, 1) := by decide +kernel
theorem dX5_turn_16 : decode cX5_turn 16 = .ok (.dup, 1) := by decide +kernel
theorem dX5_turn_17 : decode cX5_turn 17 = .ok (.getfield 86, 3) := by decide +kernel
theorem dX5_turn_20 : decode cX5_turn 20 = .ok (.aload_n 0, 1) := by decide +kernel
theorem dX5_turn_21 : decode cX5_turn 21 = .ok (.getfield 19, 3) := by decide +kernel
theorem dX5_turn_24 : decode cX5_turn 24 = .ok (.iload_n 1, 1) := by decide +kernel
theorem dX5_turn_25 : decode cX5_turn 25 = .ok (.iaload, 1) := by decide +kernel
theorem dX5_turn_26 : decode cX5_turn 26 = .ok (.ifCond .ne 7, 3) := by decide +kernel
theorem dX5_turn_29 : decode cX5_turn 29 = .ok (.lconst 1, 1) := by decide +kernel
theorem dX5_turn_30 : decode cX5_turn 30 = .ok (.goto 22, 3) := by decide +kernel
theorem dX5_turn_33 : decode cX5_turn 33 = .ok (.aload_n 0, 1) := by decide +kernel
theorem dX5_turn_34 : decode cX5_turn 34 = .ok (.getfield 19, 3) := by decide +kernel
theorem dX5_turn_37 : decode cX5_turn 37 = .ok (.iload_n 1, 1) := by decide +kernel
theorem dX5_turn_38 : decode cX5_turn 38 = .ok (.iaload, 1) := by decide +kernel
theorem dX5_turn_39 : decode cX5_turn 39 = .ok (.iconst 1, 1) := by decide +kernel
theorem dX5_turn_40 : decode cX5_turn 40 = .ok (.if_icmp .ne 9, 3) := by decide +kernel
theorem dX5_turn_43 : decode cX5_turn 43 = .ok (.ldc2_w 90, 3) := by decide +kernel
theorem dX5_turn_46 : decode cX5_turn 46 = .ok (.goto 6, 3) := by decide +kernel
theorem dX5_turn_49 : decode cX5_turn 49 = .ok (.ldc2_w 92, 3) := by decide +kernel
theorem dX5_turn_52 : decode cX5_turn 52 = .ok (.ladd, 1) := by decide +kernel
theorem dX5_turn_53 : decode cX5_turn 53 = .ok (.putfield 86, 3) := by decide +kernel
theorem dX5_turn_56 : decode cX5_turn 56 = .ok (.aload_n 0, 1) := by decide +kernel
theorem dX5_turn_57 : decode cX5_turn 57 = .ok (.iload_n 1, 1) := by decide +kernel
theorem dX5_turn_58 : decode cX5_turn 58 = .ok (.invokevirtual 94, 3) := by decide +kernel
theorem dX5_turn_61 : decode cX5_turn 61 = .ok (.ireturn, 1) := by decide +kernel
theorem dX5_isLoaded_0 : decode cX5_isLoaded 0 = .ok (.aload_n 0, 1) := by decide +kernel
theorem dX5_isLoaded_1 : decode cX5_isLoaded 1 = .ok (.getfield 31, 3) := by decide +kernel
theorem dX5_isLoaded_4 : decode cX5_isLoaded 4 = .ok (.iload_n 1, 1) := by decide +kernel
theorem dX5_isLoaded_5 : decode cX5_isLoaded 5 = .ok (.iaload, 1) := by decide +kernel
theorem dX5_isLoaded_6 : decode cX5_isLoaded 6 = .ok (.bipush (-9), 2) := by decide +kernel
theorem dX5_isLoaded_8 : decode cX5_isLoaded 8 = .ok (.if_icmp .eq 7, 3) := by decide +kernel
theorem dX5_isLoaded_11 : decode cX5_isLoaded 11 = .ok (.iconst 1, 1) := by decide +kernel
theorem dX5_isLoaded_12 : decode cX5_isLoaded 12 = .ok (.goto 4, 3) := by decide +kernel
theorem dX5_isLoaded_15 : decode cX5_isLoaded 15 = .ok (.iconst 0, 1) := by decide +kernel
theorem dX5_isLoaded_16 : decode cX5_isLoaded 16 = .ok (.ireturn, 1) := by decide +kernel
theorem dX5_loads_0 : decode cX5_loads 0 = .ok (.iconst 0, 1) := by decide +kernel
theorem dX5_loads_1 : decode cX5_loads 1 = .ok (.istore_n 3, 1) := by decide +kernel
theorem dX5_loads_2 : decode cX5_loads 2 = .ok (.iconst 0, 1) := by decide +kernel
theorem dX5_loads_3 : decode cX5_loads 3 = .ok (.istore 4, 2) := by decide +kernel
theorem dX5_loads_5 : decode cX5_loads 5 = .ok (.iload 4, 2) := by decide +kernel
theorem dX5_loads_7 : decode cX5_loads 7 = .ok (.aload_n 0, 1) := by decide +kernel
theorem dX5_loads_8 : decode cX5_loads 8 = .ok (.getfield 73, 3) := by decide +kernel
theorem dX5_loads_11 : decode cX5_loads 11 = .ok (.if_icmp .ge 109, 3) := by decide +kernel
theorem dX5_loads_14 : decode cX5_loads 14 = .ok (.iload_n 2, 1) := by decide +kernel
theorem dX5_loads_15 : decode cX5_loads 15 = .ok (.iload_n 3, 1) := by decide +kernel
theorem dX5_loads_16 : decode cX5_loads 16 = .ok (.isub, 1) := by decide +kernel
theorem dX5_loads_17 : decode cX5_loads 17 = .ok (.istore 5, 2) := by decide +kernel
theorem dX5_loads_19 : decode cX5_loads 19 = .ok (.aload_n 0, 1) := by decide +kernel
theorem dX5_loads_20 : decode cX5_loads 20 = .ok (.getfield 25, 3) := by decide +kernel
theorem dX5_loads_23 : decode cX5_loads 23 = .ok (.iload_n 1, 1) := by decide +kernel
theorem dX5_loads_24 : decode cX5_loads 24 = .ok (.iaload, 1) := by decide +kernel
theorem dX5_loads_25 : decode cX5_loads 25 = .ok (.iload 5, 2) := by decide +kernel
theorem dX5_loads_27 : decode cX5_loads 27 = .ok (.if_icmp .ge 12, 3) := by decide +kernel
theorem dX5_loads_30 : decode cX5_loads 30 = .ok (.aload_n 0, 1) := by decide +kernel
theorem dX5_loads_31 : decode cX5_loads 31 = .ok (.getfield 25, 3) := by decide +kernel
theorem dX5_loads_34 : decode cX5_loads 34 = .ok (.iload_n 1, 1) := by decide +kernel
theorem dX5_loads_35 : decode cX5_loads 35 = .ok (.iaload, 1) := by decide +kernel
theorem dX5_loads_36 : decode cX5_loads 36 = .ok (.goto 5, 3) := by decide +kernel
theorem dX5_loads_39 : decode cX5_loads 39 = .ok (.iload 5, 2) := by decide +kernel
theorem dX5_loads_41 : decode cX5_loads 41 = .ok (.istore 5, 2) := by decide +kernel
theorem dX5_loads_43 : decode cX5_loads 43 = .ok (.aload_n 0, 1) := by decide +kernel
theorem dX5_loads_44 : decode cX5_loads 44 = .ok (.getfield 13, 3) := by decide +kernel
theorem dX5_loads_47 : decode cX5_loads 47 = .ok (.iload 4, 2) := by decide +kernel
theorem dX5_loads_49 : decode cX5_loads 49 = .ok (.iaload, 1) := by decide +kernel
theorem dX5_loads_50 : decode cX5_loads 50 = .ok (.iload 5, 2) := by decide +kernel
theorem dX5_loads_52 : decode cX5_loads 52 = .ok (.if_icmp .ge 13, 3) := by decide +kernel
theorem dX5_loads_55 : decode cX5_loads 55 = .ok (.aload_n 0, 1) := by decide +kernel
theorem dX5_loads_56 : decode cX5_loads 56 = .ok (.getfield 13, 3) := by decide +kernel
theorem dX5_loads_59 : decode cX5_loads 59 = .ok (.iload 4, 2) := by decide +kernel
theorem dX5_loads_61 : decode cX5_loads 61 = .ok (.iaload, 1) := by decide +kernel
theorem dX5_loads_62 : decode cX5_loads 62 = .ok (.goto 5, 3) := by decide +kernel
theorem dX5_loads_65 : decode cX5_loads 65 = .ok (.iload 5, 2) := by decide +kernel
theorem dX5_loads_67 : decode cX5_loads 67 = .ok (.istore 5, 2) := by decide +kernel
theorem dX5_loads_69 : decode cX5_loads 69 = .ok (.aload_n 0, 1) := by decide +kernel
theorem dX5_loads_70 : decode cX5_loads 70 = .ok (.getfield 13, 3) := by decide +kernel
theorem dX5_loads_73 : decode cX5_loads 73 = .ok (.iload 4, 2) := by decide +kernel
theorem dX5_loads_75 : decode cX5_loads 75 = .ok (.dup2, 1) := by decide +kernel
theorem dX5_loads_76 : decode cX5_loads 76 = .ok (.iaload, 1) := by decide +kernel
theorem dX5_loads_77 : decode cX5_loads 77 = .ok (.iload 5, 2) := by decide +kernel
theorem dX5_loads_79 : decode cX5_loads 79 = .ok (.isub, 1) := by decide +kernel
theorem dX5_loads_80 : decode cX5_loads 80 = .ok (.iastore, 1) := by decide +kernel
theorem dX5_loads_81 : decode cX5_loads 81 = .ok (.aload_n 0, 1) := by decide +kernel
theorem dX5_loads_82 : decode cX5_loads 82 = .ok (.getfield 34, 3) := by decide +kernel
theorem dX5_loads_85 : decode cX5_loads 85 = .ok (.bipush 6, 2) := by decide +kernel
theorem dX5_loads_87 : decode cX5_loads 87 = .ok (.iload_n 1, 1) := by decide +kernel
theorem dX5_loads_88 : decode cX5_loads 88 = .ok (.imul, 1) := by decide +kernel
theorem dX5_loads_89 : decode cX5_loads 89 = .ok (.iload 4, 2) := by decide +kernel
theorem dX5_loads_91 : decode cX5_loads 91 = .ok (.iadd, 1) := by decide +kernel
theorem dX5_loads_92 : decode cX5_loads 92 = .ok (.dup2, 1) := by decide +kernel
theorem dX5_loads_93 : decode cX5_loads 93 = .ok (.iaload, 1) := by decide +kernel
theorem dX5_loads_94 : decode cX5_loads 94 = .ok (.iload 5, 2) := by decide +kernel
theorem dX5_loads_96 : decode cX5_loads 96 = .ok (.iadd, 1) := by decide +kernel
theorem dX5_loads_97 : decode cX5_loads 97 = .ok (.iastore, 1) := by decide +kernel
theorem dX5_loads_98 : decode cX5_loads 98 = .ok (.aload_n 0, 1) := by decide +kernel
theorem dX5_loads_99 : decode cX5_loads 99 = .ok (.getfield 25, 3) := by decide +kernel
theorem dX5_loads_102 : decode cX5_loads 102 = .ok (.iload_n 1, 1) := by decide +kernel
theorem dX5_loads_103 : decode cX5_loads 103 = .ok (.dup2, 1) := by decide +kernel
theorem dX5_loads_104 : decode cX5_loads 104 = .ok (.iaload, 1) := by decide +kernel
theorem dX5_loads_105 : decode cX5_loads 105 = .ok (.iload 5, 2) := by decide +kernel
theorem dX5_loads_107 : decode cX5_loads 107 = .ok (.isub, 1) := by decide +kernel
theorem dX5_loads_108 : decode cX5_loads 108 = .ok (.iastore, 1) := by decide +kernel
theorem dX5_loads_109 : decode cX5_loads 109 = .ok (.iload_n 3, 1) := by decide +kernel
theorem dX5_loads_110 : decode cX5_loads 110 = .ok (.iload 5, 2) := by decide +kernel
theorem dX5_loads_112 : decode cX5_loads 112 = .ok (.iadd, 1) := by decide +kernel
theorem dX5_loads_113 : decode cX5_loads 113 = .ok (.istore_n 3, 1) := by decide +kernel
theorem dX5_loads_114 : decode cX5_loads 114 = .ok (.iinc 4 1, 3) := by decide +kernel
theorem dX5_loads_117 : decode cX5_loads 117 = .ok (.goto (-112), 3) := by decide +kernel
theorem dX5_loads_120 : decode cX5_loads 120 = .ok (.iload_n 3, 1) := by decide +kernel
theorem dX5_loads_121 : decode cX5_loads 121 = .ok (.ireturn, 1) := by decide +kernel
theorem dX5_goes_0 : decode cX5_goes 0 = .ok (.iconst 0, 1) := by decide +kernel
theorem dX5_goes_1 : decode cX5_goes 1 = .ok (.istore_n 1, 1) := by decide +kernel
theorem dX5_goes_2 : decode cX5_goes 2 = .ok (.iload_n 1, 1) := by decide +kernel
theorem dX5_goes_3 : decode cX5_goes 3 = .ok (.aload_n 0, 1) := by decide +kernel
theorem dX5_goes_4 : decode cX5_goes 4 = .ok (.getfield 79, 3) := by decide +kernel
theorem dX5_goes_7 : decode cX5_goes 7 = .ok (.if_icmp .ge 113, 3) := by decide +kernel
theorem dX5_goes_10 : decode cX5_goes 10 = .ok (.aload_n 0, 1) := by decide +kernel
theorem dX5_goes_11 : decode cX5_goes 11 = .ok (.getfield 37, 3) := by decide +kernel
theorem dX5_goes_14 : decode cX5_goes 14 = .ok (.sipush 201, 3) := by decide +kernel
theorem dX5_goes_17 : decode cX5_goes 17 = .ok (.iload_n 1, 1) := by decide +kernel
theorem dX5_goes_18 : decode cX5_goes 18 = .ok (.imul, 1) := by decide +kernel
theorem dX5_goes_19 : decode cX5_goes 19 = .ok (.aload_n 0, 1) := by decide +kernel
theorem dX5_goes_20 : decode cX5_goes 20 = .ok (.getfield 76, 3) := by decide +kernel
theorem dX5_goes_23 : decode cX5_goes 23 = .ok (.iadd, 1) := by decide +kernel
theorem dX5_goes_24 : decode cX5_goes 24 = .ok (.iconst 0, 1) := by decide +kernel
theorem dX5_goes_25 : decode cX5_goes 25 = .ok (.iastore, 1) := by decide +kernel
theorem dX5_goes_26 : decode cX5_goes 26 = .ok (.aload_n 0, 1) := by decide +kernel
theorem dX5_goes_27 : decode cX5_goes 27 = .ok (.iload_n 1, 1) := by decide +kernel
theorem dX5_goes_28 : decode cX5_goes 28 = .ok (.invokevirtual 98, 3) := by decide +kernel
theorem dX5_goes_31 : decode cX5_goes 31 = .ok (.ifCond .ne 55, 3) := by decide +kernel
theorem dX5_goes_34 : decode cX5_goes 34 = .ok (.aload_n 0, 1) := by decide +kernel
theorem dX5_goes_35 : decode cX5_goes 35 = .ok (.getfield 28, 3) := by decide +kernel
theorem dX5_goes_38 : decode cX5_goes 38 = .ok (.iload_n 1, 1) := by decide +kernel
theorem dX5_goes_39 : decode cX5_goes 39 = .ok (.dup2, 1) := by decide +kernel
theorem dX5_goes_40 : decode cX5_goes 40 = .ok (.iaload, 1) := by decide +kernel
theorem dX5_goes_41 : decode cX5_goes 41 = .ok (.aload_n 0, 1) := by decide +kernel
theorem dX5_goes_42 : decode cX5_goes 42 = .ok (.getfield 28, 3) := by decide +kernel
theorem dX5_goes_45 : decode cX5_goes 45 = .ok (.iload_n 1, 1) := by decide +kernel
theorem dX5_goes_46 : decode cX5_goes 46 = .ok (.iaload, 1) := by decide +kernel
theorem dX5_goes_47 : decode cX5_goes 47 = .ok (.ifCond .le 7, 3) := by decide +kernel
theorem dX5_goes_50 : decode cX5_goes 50 = .ok (.iconst 1, 1) := by decide +kernel
theorem dX5_goes_51 : decode cX5_goes 51 = .ok (.goto 4, 3) := by decide +kernel
theorem dX5_goes_54 : decode cX5_goes 54 = .ok (.iconst 0, 1) := by decide +kernel
theorem dX5_goes_55 : decode cX5_goes 55 = .ok (.isub, 1) := by decide +kernel
theorem dX5_goes_56 : decode cX5_goes 56 = .ok (.iastore, 1) := by decide +kernel
theorem dX5_goes_57 : decode cX5_goes 57 = .ok (.aload_n 0, 1) := by decide +kernel
theorem dX5_goes_58 : decode cX5_goes 58 = .ok (.getfield 37, 3) := by decide +kernel
theorem dX5_goes_61 : decode cX5_goes 61 = .ok (.sipush 201, 3) := by decide +kernel
theorem dX5_goes_64 : decode cX5_goes 64 = .ok (.iload_n 1, 1) := by decide +kernel
theorem dX5_goes_65 : decode cX5_goes 65 = .ok (.imul, 1) := by decide +kernel
theorem dX5_goes_66 : decode cX5_goes 66 = .ok (.aload_n 0, 1) := by decide +kernel
theorem dX5_goes_67 : decode cX5_goes 67 = .ok (.getfield 76, 3) := by decide +kernel
theorem dX5_goes_70 : decode cX5_goes 70 = .ok (.iadd, 1) := by decide +kernel
theorem dX5_goes_71 : decode cX5_goes 71 = .ok (.aload_n 0, 1) := by decide +kernel
theorem dX5_goes_72 : decode cX5_goes 72 = .ok (.getfield 28, 3) := by decide +kernel
theorem dX5_goes_75 : decode cX5_goes 75 = .ok (.iload_n 1, 1) := by decide +kernel
theorem dX5_goes_76 : decode cX5_goes 76 = .ok (.iaload, 1) := by decide +kernel
theorem dX5_goes_77 : decode cX5_goes 77 = .ok (.ifCond .ne 7, 3) := by decide +kernel
theorem dX5_goes_80 : decode cX5_goes 80 = .ok (.iconst (-1), 1) := by decide +kernel
theorem dX5_goes_81 : decode cX5_goes 81 = .ok (.goto 4, 3) := by decide +kernel
theorem dX5_goes_84 : decode cX5_goes 84 = .ok (.iconst 0, 1) := by decide +kernel
theorem dX5_goes_85 : decode cX5_goes 85 = .ok (.iastore, 1) := by decide +kernel
theorem dX5_goes_86 : decode cX5_goes 86 = .ok (.aload_n 0, 1) := by decide +kernel
theorem dX5_goes_87 : decode cX5_goes 87 = .ok (.getfield 62, 3) := by decide +kernel
theorem dX5_goes_90 : decode cX5_goes 90 = .ok (.iload_n 1, 1) := by decide +kernel
theorem dX5_goes_91 : decode cX5_goes 91 = .ok (.aload_n 0, 1) := by decide +kernel
theorem dX5_goes_92 : decode cX5_goes 92 = .ok (.iload_n 1, 1) := by decide +kernel
theorem dX5_goes_93 : decode cX5_goes 93 = .ok (.invokevirtual 98, 3) := by decide +kernel
theorem dX5_goes_96 : decode cX5_goes 96 = .ok (.ifCond .ne 12, 3) := by decide +kernel
theorem dX5_goes_99 : decode cX5_goes 99 = .ok (.aload_n 0, 1) := by decide +kernel
theorem dX5_goes_100 : decode cX5_goes 100 = .ok (.getfield 28, 3) := by decide +kernel
theorem dX5_goes_103 : decode cX5_goes 103 = .ok (.iload_n 1, 1) := by decide +kernel
theorem dX5_goes_104 : decode cX5_goes 104 = .ok (.iaload, 1) := by decide +kernel
theorem dX5_goes_105 : decode cX5_goes 105 = .ok (.ifCond .ne 7, 3) := by decide +kernel
theorem dX5_goes_108 : decode cX5_goes 108 = .ok (.iconst 1, 1) := by decide +kernel
theorem dX5_goes_109 : decode cX5_goes 109 = .ok (.goto 4, 3) := by decide +kernel
theorem dX5_goes_112 : decode cX5_goes 112 = .ok (.iconst 0, 1) := by decide +kernel
theorem dX5_goes_113 : decode cX5_goes 113 = .ok (.bastore, 1) := by decide +kernel
theorem dX5_goes_114 : decode cX5_goes 114 = .ok (.iinc 1 1, 3) := by decide +kernel
theorem dX5_goes_117 : decode cX5_goes 117 = .ok (.goto (-115), 3) := by decide +kernel
theorem dX5_goes_120 : decode cX5_goes 120 = .ok (.aload_n 0, 1) := by decide +kernel
theorem dX5_goes_121 : decode cX5_goes 121 = .ok (.getfield 7, 3) := by decide +kernel
theorem dX5_goes_124 : decode cX5_goes 124 = .ok (.aload_n 0, 1) := by decide +kernel
theorem dX5_goes_125 : decode cX5_goes 125 = .ok (.getfield 76, 3) := by decide +kernel
theorem dX5_goes_128 : decode cX5_goes 128 = .ok (.iaload, 1) := by decide +kernel
theorem dX5_goes_129 : decode cX5_goes 129 = .ok (.iconst 4, 1) := by decide +kernel
theorem dX5_goes_130 : decode cX5_goes 130 = .ok (.if_icmp .gt 7, 3) := by decide +kernel
theorem dX5_goes_133 : decode cX5_goes 133 = .ok (.iconst 1, 1) := by decide +kernel
theorem dX5_goes_134 : decode cX5_goes 134 = .ok (.goto 4, 3) := by decide +kernel
theorem dX5_goes_137 : decode cX5_goes 137 = .ok (.iconst 0, 1) := by decide +kernel
theorem dX5_goes_138 : decode cX5_goes 138 = .ok (.istore_n 1, 1) := by decide +kernel
theorem dX5_goes_139 : decode cX5_goes 139 = .ok (.aload_n 0, 1) := by decide +kernel
theorem dX5_goes_140 : decode cX5_goes 140 = .ok (.getfield 7, 3) := by decide +kernel
theorem dX5_goes_143 : decode cX5_goes 143 = .ok (.aload_n 0, 1) := by decide +kernel
theorem dX5_goes_144 : decode cX5_goes 144 = .ok (.getfield 76, 3) := by decide +kernel
theorem dX5_goes_147 : decode cX5_goes 147 = .ok (.iaload, 1) := by decide +kernel
theorem dX5_goes_148 : decode cX5_goes 148 = .ok (.bipush 7, 2) := by decide +kernel
theorem dX5_goes_150 : decode cX5_goes 150 = .ok (.if_icmp .gt 7, 3) := by decide +kernel
theorem dX5_goes_153 : decode cX5_goes 153 = .ok (.iconst 1, 1) := by decide +kernel
theorem dX5_goes_154 : decode cX5_goes 154 = .ok (.goto 4, 3) := by decide +kernel
theorem dX5_goes_157 : decode cX5_goes 157 = .ok (.iconst 0, 1) := by decide +kernel
theorem dX5_goes_158 : decode cX5_goes 158 = .ok (.istore_n 2, 1) := by decide +kernel
theorem dX5_goes_159 : decode cX5_goes 159 = .ok (.iconst 0, 1) := by decide +kernel
theorem dX5_goes_160 : decode cX5_goes 160 = .ok (.istore_n 3, 1) := by decide +kernel
theorem dX5_goes_161 : decode cX5_goes 161 = .ok (.iconst 0, 1) := by decide +kernel
theorem dX5_goes_162 : decode cX5_goes 162 = .ok (.istore 4, 2) := by decide +kernel
theorem dX5_goes_164 : decode cX5_goes 164 = .ok (.iconst 0, 1) := by decide +kernel
theorem dX5_goes_165 : decode cX5_goes 165 = .ok (.istore 5, 2) := by decide +kernel
theorem dX5_goes_167 : decode cX5_goes 167 = .ok (.iload 5, 2) := by decide +kernel
theorem dX5_goes_169 : decode cX5_goes 169 = .ok (.bipush (-9), 2) := by decide +kernel
theorem dX5_goes_171 : decode cX5_goes 171 = .ok (.if_icmp .eq 169, 3) := by decide +kernel
theorem dX5_goes_174 : decode cX5_goes 174 = .ok (.bipush (-9), 2) := by decide +kernel
theorem dX5_goes_176 : decode cX5_goes 176 = .ok (.istore 5, 2) := by decide +kernel
theorem dX5_goes_178 : decode cX5_goes 178 = .ok (.iconst 0, 1) := by decide +kernel
theorem dX5_goes_179 : decode cX5_goes 179 = .ok (.istore 6, 2) := by decide +kernel
theorem dX5_goes_181 : decode cX5_goes 181 = .ok (.iload 6, 2) := by decide +kernel
theorem dX5_goes_183 : decode cX5_goes 183 = .ok (.aload_n 0, 1) := by decide +kernel
theorem dX5_goes_184 : decode cX5_goes 184 = .ok (.getfield 79, 3) := by decide +kernel
theorem dX5_goes_187 : decode cX5_goes 187 = .ok (.if_icmp .ge 50, 3) := by decide +kernel
theorem dX5_goes_190 : decode cX5_goes 190 = .ok (.aload_n 0, 1) := by decide +kernel
theorem dX5_goes_191 : decode cX5_goes 191 = .ok (.getfield 62, 3) := by decide +kernel
theorem dX5_goes_194 : decode cX5_goes 194 = .ok (.iload 6, 2) := by decide +kernel
theorem dX5_goes_196 : decode cX5_goes 196 = .ok (.baload, 1) := by decide +kernel
theorem dX5_goes_197 : decode cX5_goes 197 = .ok (.ifCond .ne 30, 3) := by decide +kernel
theorem dX5_goes_200 : decode cX5_goes 200 = .ok (.iload 5, 2) := by decide +kernel
theorem dX5_goes_202 : decode cX5_goes 202 = .ok (.bipush (-9), 2) := by decide +kernel
theorem dX5_goes_204 : decode cX5_goes 204 = .ok (.if_icmp .eq 18, 3) := by decide +kernel
theorem dX5_goes_207 : decode cX5_goes 207 = .ok (.aload_n 0, 1) := by decide +kernel
theorem dX5_goes_208 : decode cX5_goes 208 = .ok (.iload 6, 2) := by decide +kernel
theorem dX5_goes_210 : decode cX5_goes 210 = .ok (.invokevirtual 94, 3) := by decide +kernel
theorem dX5_goes_213 : decode cX5_goes 213 = .ok (.aload_n 0, 1) := by decide +kernel
theorem dX5_goes_214 : decode cX5_goes 214 = .ok (.iload 5, 2) := by decide +kernel
theorem dX5_goes_216 : decode cX5_goes 216 = .ok (.invokevirtual 94, 3) := by decide +kernel
theorem dX5_goes_219 : decode cX5_goes 219 = .ok (.if_icmp .ge 8, 3) := by decide +kernel
theorem dX5_goes_222 : decode cX5_goes 222 = .ok (.iload 6, 2) := by decide +kernel
theorem dX5_goes_224 : decode cX5_goes 224 = .ok (.goto 5, 3) := by decide +kernel
theorem dX5_goes_227 : decode cX5_goes 227 = .ok (.iload 5, 2) := by decide +kernel
theorem dX5_goes_229 : decode cX5_goes 229 = .ok (.istore 5, 2) := by decide +kernel
theorem dX5_goes_231 : decode cX5_goes 231 = .ok (.iinc 6 1, 3) := by decide +kernel
theorem dX5_goes_234 : decode cX5_goes 234 = .ok (.goto (-53), 3) := by decide +kernel
theorem dX5_goes_237 : decode cX5_goes 237 = .ok (.iload 5, 2) := by decide +kernel
theorem dX5_goes_239 : decode cX5_goes 239 = .ok (.bipush (-9), 2) := by decide +kernel
theorem dX5_goes_241 : decode cX5_goes 241 = .ok (.if_icmp .eq (-74), 3) := by decide +kernel
theorem dX5_goes_244 : decode cX5_goes 244 = .ok (.aload_n 0, 1) := by decide +kernel
theorem dX5_goes_245 : decode cX5_goes 245 = .ok (.getfield 62, 3) := by decide +kernel
theorem dX5_goes_248 : decode cX5_goes 248 = .ok (.iload 5, 2) := by decide +kernel
theorem dX5_goes_250 : decode cX5_goes 250 = .ok (.iconst 1, 1) := by decide +kernel
theorem dX5_goes_251 : decode cX5_goes 251 = .ok (.bastore, 1) := by decide +kernel
theorem dX5_goes_252 : decode cX5_goes 252 = .ok (.aload_n 0, 1) := by decide +kernel
theorem dX5_goes_253 : decode cX5_goes 253 = .ok (.iload 5, 2) := by decide +kernel
theorem dX5_goes_255 : decode cX5_goes 255 = .ok (.iload 4, 2) := by decide +kernel
theorem dX5_goes_257 : decode cX5_goes 257 = .ok (.iconst 2, 1) := by decide +kernel
theorem dX5_goes_258 : decode cX5_goes 258 = .ok (.if_icmp .ge 12, 3) := by decide +kernel
theorem dX5_goes_261 : decode cX5_goes 261 = .ok (.iload_n 1, 1) := by decide +kernel
theorem dX5_goes_262 : decode cX5_goes 262 = .ok (.ifCond .eq 8, 3) := by decide +kernel
theorem dX5_goes_265 : decode cX5_goes 265 = .ok (.bipush 60, 2) := by decide +kernel
theorem dX5_goes_267 : decode cX5_goes 267 = .ok (.goto 13, 3) := by decide +kernel
theorem dX5_goes_270 : decode cX5_goes 270 = .ok (.iload_n 2, 1) := by decide +kernel
theorem dX5_goes_271 : decode cX5_goes 271 = .ok (.ifCond .eq 8, 3) := by decide +kernel
theorem dX5_goes_274 : decode cX5_goes 274 = .ok (.bipush 15, 2) := by decide +kernel
theorem dX5_goes_276 : decode cX5_goes 276 = .ok (.goto 4, 3) := by decide +kernel
theorem dX5_goes_279 : decode cX5_goes 279 = .ok (.iconst 0, 1) := by decide +kernel
theorem dX5_goes_280 : decode cX5_goes 280 = .ok (.invokevirtual 101, 3) := by decide +kernel
theorem dX5_goes_283 : decode cX5_goes 283 = .ok (.istore 6, 2) := by decide +kernel
theorem dX5_goes_285 : decode cX5_goes 285 = .ok (.aload_n 0, 1) := by decide +kernel
theorem dX5_goes_286 : decode cX5_goes 286 = .ok (.getfield 37, 3) := by decide +kernel
theorem dX5_goes_289 : decode cX5_goes 289 = .ok (.sipush 201, 3) := by decide +kernel
theorem dX5_goes_292 : decode cX5_goes 292 = .ok (.iload 5, 2) := by decide +kernel
theorem dX5_goes_294 : decode cX5_goes 294 = .ok (.imul, 1) := by decide +kernel
theorem dX5_goes_295 : decode cX5_goes 295 = .ok (.aload_n 0, 1) := by decide +kernel
theorem dX5_goes_296 : decode cX5_goes 296 = .ok (.getfield 76, 3) := by decide +kernel
theorem dX5_goes_299 : decode cX5_goes 299 = .ok (.iadd, 1) := by decide +kernel
theorem dX5_goes_300 : decode cX5_goes 300 = .ok (.iload 6, 2) := by decide +kernel
theorem dX5_goes_302 : decode cX5_goes 302 = .ok (.iastore, 1) := by decide +kernel
theorem dX5_goes_303 : decode cX5_goes 303 = .ok (.aload_n 0, 1) := by decide +kernel
theorem dX5_goes_304 : decode cX5_goes 304 = .ok (.getfield 31, 3) := by decide +kernel
theorem dX5_goes_307 : decode cX5_goes 307 = .ok (.iload 5, 2) := by decide +kernel
theorem dX5_goes_309 : decode cX5_goes 309 = .ok (.aload_n 0, 1) := by decide +kernel
theorem dX5_goes_310 : decode cX5_goes 310 = .ok (.getfield 25, 3) := by decide +kernel
theorem dX5_goes_313 : decode cX5_goes 313 = .ok (.iload 5, 2) := by decide +kernel
theorem dX5_goes_315 : decode cX5_goes 315 = .ok (.iaload, 1) := by decide +kernel
theorem dX5_goes_316 : decode cX5_goes 316 = .ok (.ifCond .ne 10, 3) := by decide +kernel
theorem dX5_goes_319 : decode cX5_goes 319 = .ok (.aload_n 0, 1) := by decide +kernel
theorem dX5_goes_320 : decode cX5_goes 320 = .ok (.getfield 76, 3) := by decide +kernel
theorem dX5_goes_323 : decode cX5_goes 323 = .ok (.goto 5, 3) := by decide +kernel
theorem dX5_goes_326 : decode cX5_goes 326 = .ok (.bipush (-9), 2) := by decide +kernel
theorem dX5_goes_328 : decode cX5_goes 328 = .ok (.iastore, 1) := by decide +kernel
theorem dX5_goes_329 : decode cX5_goes 329 = .ok (.iload_n 3, 1) := by decide +kernel
theorem dX5_goes_330 : decode cX5_goes 330 = .ok (.iload 6, 2) := by decide +kernel
theorem dX5_goes_332 : decode cX5_goes 332 = .ok (.iadd, 1) := by decide +kernel
theorem dX5_goes_333 : decode cX5_goes 333 = .ok (.istore_n 3, 1) := by decide +kernel
theorem dX5_goes_334 : decode cX5_goes 334 = .ok (.iinc 4 1, 3) := by decide +kernel
theorem dX5_goes_337 : decode cX5_goes 337 = .ok (.goto (-170), 3) := by decide +kernel
theorem dX5_goes_340 : decode cX5_goes 340 = .ok (.iconst 0, 1) := by decide +kernel
theorem dX5_goes_341 : decode cX5_goes 341 = .ok (.istore 6, 2) := by decide +kernel
theorem dX5_goes_343 : decode cX5_goes 343 = .ok (.iconst 0, 1) := by decide +kernel
theorem dX5_goes_344 : decode cX5_goes 344 = .ok (.istore 7, 2) := by decide +kernel
theorem dX5_goes_346 : decode cX5_goes 346 = .ok (.iload 7, 2) := by decide +kernel
theorem dX5_goes_348 : decode cX5_goes 348 = .ok (.aload_n 0, 1) := by decide +kernel
theorem dX5_goes_349 : decode cX5_goes 349 = .ok (.getfield 79, 3) := by decide +kernel
theorem dX5_goes_352 : decode cX5_goes 352 = .ok (.if_icmp .ge 34, 3) := by decide +kernel
theorem dX5_goes_355 : decode cX5_goes 355 = .ok (.iload 6, 2) := by decide +kernel
theorem dX5_goes_357 : decode cX5_goes 357 = .ok (.aload_n 0, 1) := by decide +kernel
theorem dX5_goes_358 : decode cX5_goes 358 = .ok (.iload 7, 2) := by decide +kernel
theorem dX5_goes_360 : decode cX5_goes 360 = .ok (.invokevirtual 98, 3) := by decide +kernel
theorem dX5_goes_363 : decode cX5_goes 363 = .ok (.ifCond .eq 7, 3) := by decide +kernel
theorem dX5_goes_366 : decode cX5_goes 366 = .ok (.iconst 0, 1) := by decide +kernel
theorem dX5_goes_367 : decode cX5_goes 367 = .ok (.goto 10, 3) := by decide +kernel
theorem dX5_goes_370 : decode cX5_goes 370 = .ok (.aload_n 0, 1) := by decide +kernel
theorem dX5_goes_371 : decode cX5_goes 371 = .ok (.getfield 25, 3) := by decide +kernel
theorem dX5_goes_374 : decode cX5_goes 374 = .ok (.iload 7, 2) := by decide +kernel
theorem dX5_goes_376 : decode cX5_goes 376 = .ok (.iaload, 1) := by decide +kernel
theorem dX5_goes_377 : decode cX5_goes 377 = .ok (.iadd, 1) := by decide +kernel
theorem dX5_goes_378 : decode cX5_goes 378 = .ok (.istore 6, 2) := by decide +kernel
theorem dX5_goes_380 : decode cX5_goes 380 = .ok (.iinc 7 1, 3) := by decide +kernel
theorem dX5_goes_383 : decode cX5_goes 383 = .ok (.goto (-37), 3) := by decide +kernel
theorem dX5_goes_386 : decode cX5_goes 386 = .ok (.aload_n 0, 1) := by decide +kernel
theorem dX5_goes_387 : decode cX5_goes 387 = .ok (.getfield 40, 3) := by decide +kernel
theorem dX5_goes_390 : decode cX5_goes 390 = .ok (.aload_n 0, 1) := by decide +kernel
theorem dX5_goes_391 : decode cX5_goes 391 = .ok (.getfield 76, 3) := by decide +kernel
theorem dX5_goes_394 : decode cX5_goes 394 = .ok (.iload 6, 2) := by decide +kernel
theorem dX5_goes_396 : decode cX5_goes 396 = .ok (.iastore, 1) := by decide +kernel
theorem dX5_goes_397 : decode cX5_goes 397 = .ok (.aload_n 0, 1) := by decide +kernel
theorem dX5_goes_398 : decode cX5_goes 398 = .ok (.getfield 43, 3) := by decide +kernel
theorem dX5_goes_401 : decode cX5_goes 401 = .ok (.aload_n 0, 1) := by decide +kernel
theorem dX5_goes_402 : decode cX5_goes 402 = .ok (.getfield 76, 3) := by decide +kernel
theorem dX5_goes_405 : decode cX5_goes 405 = .ok (.iload_n 3, 1) := by decide +kernel
theorem dX5_goes_406 : decode cX5_goes 406 = .ok (.iastore, 1) := by decide +kernel
theorem dX5_goes_407 : decode cX5_goes 407 = .ok (.aload_n 0, 1) := by decide +kernel
theorem dX5_goes_408 : decode cX5_goes 408 = .ok (.getfield 46, 3) := by decide +kernel
theorem dX5_goes_411 : decode cX5_goes 411 = .ok (.aload_n 0, 1) := by decide +kernel
theorem dX5_goes_412 : decode cX5_goes 412 = .ok (.getfield 76, 3) := by decide +kernel
theorem dX5_goes_415 : decode cX5_goes 415 = .ok (.aload_n 0, 1) := by decide +kernel
theorem dX5_goes_416 : decode cX5_goes 416 = .ok (.getfield 76, 3) := by decide +kernel
theorem dX5_goes_419 : decode cX5_goes 419 = .ok (.aload_n 0, 1) := by decide +kernel
theorem dX5_goes_420 : decode cX5_goes 420 = .ok (.getfield 49, 3) := by decide +kernel
theorem dX5_goes_423 : decode cX5_goes 423 = .ok (.iadd, 1) := by decide +kernel
theorem dX5_goes_424 : decode cX5_goes 424 = .ok (.iastore, 1) := by decide +kernel
theorem dX5_goes_425 : decode cX5_goes 425 = .ok (.aload_n 0, 1) := by decide +kernel
theorem dX5_goes_426 : decode cX5_goes 426 = .ok (.dup, 1) := by decide +kernel
theorem dX5_goes_427 : decode cX5_goes 427 = .ok (.getfield 105, 3) := by decide +kernel
theorem dX5_goes_430 : decode cX5_goes 430 = .ok (.iload_n 3, 1) := by decide +kernel
theorem dX5_goes_431 : decode cX5_goes 431 = .ok (.iadd, 1) := by decide +kernel
theorem dX5_goes_432 : decode cX5_goes 432 = .ok (.putfield 105, 3) := by decide +kernel
theorem dX5_goes_435 : decode cX5_goes 435 = .ok (.aload_n 0, 1) := by decide +kernel
theorem dX5_goes_436 : decode cX5_goes 436 = .ok (.dup, 1) := by decide +kernel
theorem dX5_goes_437 : decode cX5_goes 437 = .ok (.getfield 76, 3) := by decide +kernel
theorem dX5_goes_440 : decode cX5_goes 440 = .ok (.iconst 1, 1) := by decide +kernel
theorem dX5_goes_441 : decode cX5_goes 441 = .ok (.iadd, 1) := by decide +kernel
theorem dX5_goes_442 : decode cX5_goes 442 = .ok (.putfield 76, 3) := by decide +kernel
theorem dX5_goes_445 : decode cX5_goes 445 = .ok (.return_, 1) := by decide +kernel
theorem dX5_days_0 : decode cX5_days 0 = .ok (.aload_n 0, 1) := by decide +kernel
theorem dX5_days_1 : decode cX5_days 1 = .ok (.iconst 0, 1) := by decide +kernel
theorem dX5_days_2 : decode cX5_days 2 = .ok (.putfield 66, 3) := by decide +kernel
theorem dX5_days_5 : decode cX5_days 5 = .ok (.iload_n 1, 1) := by decide +kernel
theorem dX5_days_6 : decode cX5_days 6 = .ok (.iconst 1, 1) := by decide +kernel
theorem dX5_days_7 : decode cX5_days 7 = .ok (.bipush 20, 2) := by decide +kernel
theorem dX5_days_9 : decode cX5_days 9 = .ok (.invokestatic 69, 3) := by decide +kernel
theorem dX5_days_12 : decode cX5_days 12 = .ok (.ifCond .ne 5, 3) := by decide +kernel
theorem dX5_days_15 : decode cX5_days 15 = .ok (.iconst (-1), 1) := by decide +kernel
theorem dX5_days_16 : decode cX5_days 16 = .ok (.ireturn, 1) := by decide +kernel
theorem dX5_days_17 : decode cX5_days 17 = .ok (.aload_n 0, 1) := by decide +kernel
theorem dX5_days_18 : decode cX5_days 18 = .ok (.getfield 76, 3) := by decide +kernel
theorem dX5_days_21 : decode cX5_days 21 = .ok (.iload_n 1, 1) := by decide +kernel
theorem dX5_days_22 : decode cX5_days 22 = .ok (.iadd, 1) := by decide +kernel
theorem dX5_days_23 : decode cX5_days 23 = .ok (.sipush 200, 3) := by decide +kernel
theorem dX5_days_26 : decode cX5_days 26 = .ok (.if_icmp .le 6, 3) := by decide +kernel
theorem dX5_days_29 : decode cX5_days 29 = .ok (.bipush (-2), 2) := by decide +kernel
theorem dX5_days_31 : decode cX5_days 31 = .ok (.ireturn, 1) := by decide +kernel
theorem dX5_days_32 : decode cX5_days 32 = .ok (.iconst 0, 1) := by decide +kernel
theorem dX5_days_33 : decode cX5_days 33 = .ok (.istore_n 2, 1) := by decide +kernel
theorem dX5_days_34 : decode cX5_days 34 = .ok (.iload_n 2, 1) := by decide +kernel
theorem dX5_days_35 : decode cX5_days 35 = .ok (.iload_n 1, 1) := by decide +kernel
theorem dX5_days_36 : decode cX5_days 36 = .ok (.if_icmp .ge 13, 3) := by decide +kernel
theorem dX5_days_39 : decode cX5_days 39 = .ok (.aload_n 0, 1) := by decide +kernel
theorem dX5_days_40 : decode cX5_days 40 = .ok (.invokevirtual 108, 3) := by decide +kernel
theorem dX5_days_43 : decode cX5_days 43 = .ok (.iinc 2 1, 3) := by decide +kernel
theorem dX5_days_46 : decode cX5_days 46 = .ok (.goto (-12), 3) := by decide +kernel
theorem dX5_days_49 : decode cX5_days 49 = .ok (.aload_n 0, 1) := by decide +kernel
theorem dX5_days_50 : decode cX5_days 50 = .ok (.getfield 76, 3) := by decide +kernel
theorem dX5_days_53 : decode cX5_days 53 = .ok (.ireturn, 1) := by decide +kernel
theorem dX5_tonsOf_0 : decode cX5_tonsOf 0 = .ok (.iconst 0, 1) := by decide +kernel
theorem dX5_tonsOf_1 : decode cX5_tonsOf 1 = .ok (.istore_n 2, 1) := by decide +kernel
theorem dX5_tonsOf_2 : decode cX5_tonsOf 2 = .ok (.iconst 0, 1) := by decide +kernel
theorem dX5_tonsOf_3 : decode cX5_tonsOf 3 = .ok (.istore_n 3, 1) := by decide +kernel
theorem dX5_tonsOf_4 : decode cX5_tonsOf 4 = .ok (.iload_n 3, 1) := by decide +kernel
theorem dX5_tonsOf_5 : decode cX5_tonsOf 5 = .ok (.aload_n 0, 1) := by decide +kernel
theorem dX5_tonsOf_6 : decode cX5_tonsOf 6 = .ok (.getfield 73, 3) := by decide +kernel
theorem dX5_tonsOf_9 : decode cX5_tonsOf 9 = .ok (.if_icmp .ge 23, 3) := by decide +kernel
theorem dX5_tonsOf_12 : decode cX5_tonsOf 12 = .ok (.iload_n 2, 1) := by decide +kernel
theorem dX5_tonsOf_13 : decode cX5_tonsOf 13 = .ok (.aload_n 0, 1) := by decide +kernel
theorem dX5_tonsOf_14 : decode cX5_tonsOf 14 = .ok (.getfield 34, 3) := by decide +kernel
theorem dX5_tonsOf_17 : decode cX5_tonsOf 17 = .ok (.bipush 6, 2) := by decide +kernel
theorem dX5_tonsOf_19 : decode cX5_tonsOf 19 = .ok (.iload_n 1, 1) := by decide +kernel
theorem dX5_tonsOf_20 : decode cX5_tonsOf 20 = .ok (.imul, 1) := by decide +kernel
theorem dX5_tonsOf_21 : decode cX5_tonsOf 21 = .ok (.iload_n 3, 1) := by decide +kernel
theorem dX5_tonsOf_22 : decode cX5_tonsOf 22 = .ok (.iadd, 1) := by decide +kernel
theorem dX5_tonsOf_23 : decode cX5_tonsOf 23 = .ok (.iaload, 1) := by decide +kernel
theorem dX5_tonsOf_24 : decode cX5_tonsOf 24 = .ok (.iadd, 1) := by decide +kernel
theorem dX5_tonsOf_25 : decode cX5_tonsOf 25 = .ok (.istore_n 2, 1) := by decide +kernel
theorem dX5_tonsOf_26 : decode cX5_tonsOf 26 = .ok (.iinc 3 1, 3) := by decide +kernel
theorem dX5_tonsOf_29 : decode cX5_tonsOf 29 = .ok (.goto (-25), 3) := by decide +kernel
theorem dX5_tonsOf_32 : decode cX5_tonsOf 32 = .ok (.iload_n 2, 1) := by decide +kernel
theorem dX5_tonsOf_33 : decode cX5_tonsOf 33 = .ok (.ireturn, 1) := by decide +kernel
theorem dX5_worthOf_0 : decode cX5_worthOf 0 = .ok (.iconst 0, 1) := by decide +kernel
theorem dX5_worthOf_1 : decode cX5_worthOf 1 = .ok (.istore_n 2, 1) := by decide +kernel
theorem dX5_worthOf_2 : decode cX5_worthOf 2 = .ok (.iconst 0, 1) := by decide +kernel
theorem dX5_worthOf_3 : decode cX5_worthOf 3 = .ok (.istore_n 3, 1) := by decide +kernel
theorem dX5_worthOf_4 : decode cX5_worthOf 4 = .ok (.iload_n 3, 1) := by decide +kernel
theorem dX5_worthOf_5 : decode cX5_worthOf 5 = .ok (.aload_n 0, 1) := by decide +kernel
theorem dX5_worthOf_6 : decode cX5_worthOf 6 = .ok (.getfield 73, 3) := by decide +kernel
theorem dX5_worthOf_9 : decode cX5_worthOf 9 = .ok (.if_icmp .ge 30, 3) := by decide +kernel
theorem dX5_worthOf_12 : decode cX5_worthOf 12 = .ok (.iload_n 2, 1) := by decide +kernel
theorem dX5_worthOf_13 : decode cX5_worthOf 13 = .ok (.aload_n 0, 1) := by decide +kernel
theorem dX5_worthOf_14 : decode cX5_worthOf 14 = .ok (.getfield 34, 3) := by decide +kernel
theorem dX5_worthOf_17 : decode cX5_worthOf 17 = .ok (.bipush 6, 2) := by decide +kernel
theorem dX5_worthOf_19 : decode cX5_worthOf 19 = .ok (.iload_n 1, 1) := by decide +kernel
theorem dX5_worthOf_20 : decode cX5_worthOf 20 = .ok (.imul, 1) := by decide +kernel
theorem dX5_worthOf_21 : decode cX5_worthOf 21 = .ok (.iload_n 3, 1) := by decide +kernel
theorem dX5_worthOf_22 : decode cX5_worthOf 22 = .ok (.iadd, 1) := by decide +kernel
theorem dX5_worthOf_23 : decode cX5_worthOf 23 = .ok (.iaload, 1) := by decide +kernel
theorem dX5_worthOf_24 : decode cX5_worthOf 24 = .ok (.aload_n 0, 1) := by decide +kernel
theorem dX5_worthOf_25 : decode cX5_worthOf 25 = .ok (.getfield 16, 3) := by decide +kernel
theorem dX5_worthOf_28 : decode cX5_worthOf 28 = .ok (.iload_n 3, 1) := by decide +kernel
theorem dX5_worthOf_29 : decode cX5_worthOf 29 = .ok (.iaload, 1) := by decide +kernel
theorem dX5_worthOf_30 : decode cX5_worthOf 30 = .ok (.imul, 1) := by decide +kernel
theorem dX5_worthOf_31 : decode cX5_worthOf 31 = .ok (.iadd, 1) := by decide +kernel
theorem dX5_worthOf_32 : decode cX5_worthOf 32 = .ok (.istore_n 2, 1) := by decide +kernel
theorem dX5_worthOf_33 : decode cX5_worthOf 33 = .ok (.iinc 3 1, 3) := by decide +kernel
theorem dX5_worthOf_36 : decode cX5_worthOf 36 = .ok (.goto (-32), 3) := by decide +kernel
theorem dX5_worthOf_39 : decode cX5_worthOf 39 = .ok (.iload_n 2, 1) := by decide +kernel
theorem dX5_worthOf_40 : decode cX5_worthOf 40 = .ok (.ireturn, 1) := by decide +kernel
theorem dX5_about_0 : decode cX5_about 0 = .ok (.aload_n 0, 1) := by decide +kernel
theorem dX5_about_1 : decode cX5_about 1 = .ok (.iconst 0, 1) := by decide +kernel
theorem dX5_about_2 : decode cX5_about 2 = .ok (.putfield 66, 3) := by decide +kernel
theorem dX5_about_5 : decode cX5_about 5 = .ok (.aload_n 0, 1) := by decide +kernel
theorem dX5_about_6 : decode cX5_about 6 = .ok (.iload_n 1, 1) := by decide +kernel
theorem dX5_about_7 : decode cX5_about 7 = .ok (.invokevirtual 82, 3) := by decide +kernel
theorem dX5_about_10 : decode cX5_about 10 = .ok (.ifCond .ne 5, 3) := by decide +kernel
theorem dX5_about_13 : decode cX5_about 13 = .ok (.iconst (-1), 1) := by decide +kernel
theorem dX5_about_14 : decode cX5_about 14 = .ok (.ireturn, 1) := by decide +kernel
theorem dX5_about_15 : decode cX5_about 15 = .ok (.iload_n 2, 1) := by decide +kernel
theorem dX5_about_16 : decode cX5_about 16 = .ok (.tableswitch 91 0 6 #[44, 51, 58, 65, 71, 78, 85], 44) := by decide +kernel
theorem dX5_about_60 : decode cX5_about 60 = .ok (.aload_n 0, 1) := by decide +kernel
theorem dX5_about_61 : decode cX5_about 61 = .ok (.getfield 19, 3) := by decide +kernel
theorem dX5_about_64 : decode cX5_about 64 = .ok (.iload_n 1, 1) := by decide +kernel
theorem dX5_about_65 : decode cX5_about 65 = .ok (.iaload, 1) := by decide +kernel
theorem dX5_about_66 : decode cX5_about 66 = .ok (.ireturn, 1) := by decide +kernel
theorem dX5_about_67 : decode cX5_about 67 = .ok (.aload_n 0, 1) := by decide +kernel
theorem dX5_about_68 : decode cX5_about 68 = .ok (.getfield 22, 3) := by decide +kernel
theorem dX5_about_71 : decode cX5_about 71 = .ok (.iload_n 1, 1) := by decide +kernel
theorem dX5_about_72 : decode cX5_about 72 = .ok (.iaload, 1) := by decide +kernel
theorem dX5_about_73 : decode cX5_about 73 = .ok (.ireturn, 1) := by decide +kernel
theorem dX5_about_74 : decode cX5_about 74 = .ok (.aload_n 0, 1) := by decide +kernel
theorem dX5_about_75 : decode cX5_about 75 = .ok (.getfield 25, 3) := by decide +kernel
theorem dX5_about_78 : decode cX5_about 78 = .ok (.iload_n 1, 1) := by decide +kernel
theorem dX5_about_79 : decode cX5_about 79 = .ok (.iaload, 1) := by decide +kernel
theorem dX5_about_80 : decode cX5_about 80 = .ok (.ireturn, 1) := by decide +kernel
theorem dX5_about_81 : decode cX5_about 81 = .ok (.aload_n 0, 1) := by decide +kernel
theorem dX5_about_82 : decode cX5_about 82 = .ok (.iload_n 1, 1) := by decide +kernel
theorem dX5_about_83 : decode cX5_about 83 = .ok (.invokevirtual 111, 3) := by decide +kernel
theorem dX5_about_86 : decode cX5_about 86 = .ok (.ireturn, 1) := by decide +kernel
theorem dX5_about_87 : decode cX5_about 87 = .ok (.aload_n 0, 1) := by decide +kernel
theorem dX5_about_88 : decode cX5_about 88 = .ok (.getfield 28, 3) := by decide +kernel
theorem dX5_about_91 : decode cX5_about 91 = .ok (.iload_n 1, 1) := by decide +kernel
theorem dX5_about_92 : decode cX5_about 92 = .ok (.iaload, 1) := by decide +kernel
theorem dX5_about_93 : decode cX5_about 93 = .ok (.ireturn, 1) := by decide +kernel
theorem dX5_about_94 : decode cX5_about 94 = .ok (.aload_n 0, 1) := by decide +kernel
theorem dX5_about_95 : decode cX5_about 95 = .ok (.getfield 31, 3) := by decide +kernel
theorem dX5_about_98 : decode cX5_about 98 = .ok (.iload_n 1, 1) := by decide +kernel
theorem dX5_about_99 : decode cX5_about 99 = .ok (.iaload, 1) := by decide +kernel
theorem dX5_about_100 : decode cX5_about 100 = .ok (.ireturn, 1) := by decide +kernel
theorem dX5_about_101 : decode cX5_about 101 = .ok (.aload_n 0, 1) := by decide +kernel
theorem dX5_about_102 : decode cX5_about 102 = .ok (.iload_n 1, 1) := by decide +kernel
theorem dX5_about_103 : decode cX5_about 103 = .ok (.invokevirtual 114, 3) := by decide +kernel
theorem dX5_about_106 : decode cX5_about 106 = .ok (.ireturn, 1) := by decide +kernel
theorem dX5_about_107 : decode cX5_about 107 = .ok (.iconst (-1), 1) := by decide +kernel
theorem dX5_about_108 : decode cX5_about 108 = .ok (.ireturn, 1) := by decide +kernel
theorem dX5_cargo_0 : decode cX5_cargo 0 = .ok (.aload_n 0, 1) := by decide +kernel
theorem dX5_cargo_1 : decode cX5_cargo 1 = .ok (.iconst 0, 1) := by decide +kernel
theorem dX5_cargo_2 : decode cX5_cargo 2 = .ok (.putfield 66, 3) := by decide +kernel
theorem dX5_cargo_5 : decode cX5_cargo 5 = .ok (.aload_n 0, 1) := by decide +kernel
theorem dX5_cargo_6 : decode cX5_cargo 6 = .ok (.iload_n 1, 1) := by decide +kernel
theorem dX5_cargo_7 : decode cX5_cargo 7 = .ok (.invokevirtual 82, 3) := by decide +kernel
theorem dX5_cargo_10 : decode cX5_cargo 10 = .ok (.ifCond .eq 31, 3) := by decide +kernel
theorem dX5_cargo_13 : decode cX5_cargo 13 = .ok (.iload_n 2, 1) := by decide +kernel
theorem dX5_cargo_14 : decode cX5_cargo 14 = .ok (.iconst 0, 1) := by decide +kernel
theorem dX5_cargo_15 : decode cX5_cargo 15 = .ok (.aload_n 0, 1) := by decide +kernel
theorem dX5_cargo_16 : decode cX5_cargo 16 = .ok (.getfield 73, 3) := by decide +kernel
theorem dX5_cargo_19 : decode cX5_cargo 19 = .ok (.iconst 1, 1) := by decide +kernel
theorem dX5_cargo_20 : decode cX5_cargo 20 = .ok (.isub, 1) := by decide +kernel
theorem dX5_cargo_21 : decode cX5_cargo 21 = .ok (.invokestatic 69, 3) := by decide +kernel
theorem dX5_cargo_24 : decode cX5_cargo 24 = .ok (.ifCond .eq 17, 3) := by decide +kernel
theorem dX5_cargo_27 : decode cX5_cargo 27 = .ok (.aload_n 0, 1) := by decide +kernel
theorem dX5_cargo_28 : decode cX5_cargo 28 = .ok (.getfield 34, 3) := by decide +kernel
theorem dX5_cargo_31 : decode cX5_cargo 31 = .ok (.bipush 6, 2) := by decide +kernel
theorem dX5_cargo_33 : decode cX5_cargo 33 = .ok (.iload_n 1, 1) := by decide +kernel
theorem dX5_cargo_34 : decode cX5_cargo 34 = .ok (.imul, 1) := by decide +kernel
theorem dX5_cargo_35 : decode cX5_cargo 35 = .ok (.iload_n 2, 1) := by decide +kernel
theorem dX5_cargo_36 : decode cX5_cargo 36 = .ok (.iadd, 1) := by decide +kernel
theorem dX5_cargo_37 : decode cX5_cargo 37 = .ok (.iaload, 1) := by decide +kernel
theorem dX5_cargo_38 : decode cX5_cargo 38 = .ok (.goto 4, 3) := by decide +kernel
theorem dX5_cargo_41 : decode cX5_cargo 41 = .ok (.iconst (-1), 1) := by decide +kernel
theorem dX5_cargo_42 : decode cX5_cargo 42 = .ok (.ireturn, 1) := by decide +kernel
theorem dX5_loaded_0 : decode cX5_loaded 0 = .ok (.aload_n 0, 1) := by decide +kernel
theorem dX5_loaded_1 : decode cX5_loaded 1 = .ok (.iconst 0, 1) := by decide +kernel
theorem dX5_loaded_2 : decode cX5_loaded 2 = .ok (.putfield 66, 3) := by decide +kernel
theorem dX5_loaded_5 : decode cX5_loaded 5 = .ok (.aload_n 0, 1) := by decide +kernel
theorem dX5_loaded_6 : decode cX5_loaded 6 = .ok (.iload_n 1, 1) := by decide +kernel
theorem dX5_loaded_7 : decode cX5_loaded 7 = .ok (.invokevirtual 82, 3) := by decide +kernel
theorem dX5_loaded_10 : decode cX5_loaded 10 = .ok (.ifCond .eq 32, 3) := by decide +kernel
theorem dX5_loaded_13 : decode cX5_loaded 13 = .ok (.iload_n 2, 1) := by decide +kernel
theorem dX5_loaded_14 : decode cX5_loaded 14 = .ok (.iconst 0, 1) := by decide +kernel
theorem dX5_loaded_15 : decode cX5_loaded 15 = .ok (.aload_n 0, 1) := by decide +kernel
theorem dX5_loaded_16 : decode cX5_loaded 16 = .ok (.getfield 76, 3) := by decide +kernel
theorem dX5_loaded_19 : decode cX5_loaded 19 = .ok (.iconst 1, 1) := by decide +kernel
theorem dX5_loaded_20 : decode cX5_loaded 20 = .ok (.isub, 1) := by decide +kernel
theorem dX5_loaded_21 : decode cX5_loaded 21 = .ok (.invokestatic 69, 3) := by decide +kernel
theorem dX5_loaded_24 : decode cX5_loaded 24 = .ok (.ifCond .eq 18, 3) := by decide +kernel
theorem dX5_loaded_27 : decode cX5_loaded 27 = .ok (.aload_n 0, 1) := by decide +kernel
theorem dX5_loaded_28 : decode cX5_loaded 28 = .ok (.getfield 37, 3) := by decide +kernel
theorem dX5_loaded_31 : decode cX5_loaded 31 = .ok (.sipush 201, 3) := by decide +kernel
theorem dX5_loaded_34 : decode cX5_loaded 34 = .ok (.iload_n 1, 1) := by decide +kernel
theorem dX5_loaded_35 : decode cX5_loaded 35 = .ok (.imul, 1) := by decide +kernel
theorem dX5_loaded_36 : decode cX5_loaded 36 = .ok (.iload_n 2, 1) := by decide +kernel
theorem dX5_loaded_37 : decode cX5_loaded 37 = .ok (.iadd, 1) := by decide +kernel
theorem dX5_loaded_38 : decode cX5_loaded 38 = .ok (.iaload, 1) := by decide +kernel
theorem dX5_loaded_39 : decode cX5_loaded 39 = .ok (.goto 5, 3) := by decide +kernel
theorem dX5_loaded_42 : decode cX5_loaded 42 = .ok (.bipush (-2), 2) := by decide +kernel
theorem dX5_loaded_44 : decode cX5_loaded 44 = .ok (.ireturn, 1) := by decide +kernel
theorem dX5_boat_0 : decode cX5_boat 0 = .ok (.aload_n 0, 1) := by decide +kernel
theorem dX5_boat_1 : decode cX5_boat 1 = .ok (.iconst 0, 1) := by decide +kernel
theorem dX5_boat_2 : decode cX5_boat 2 = .ok (.putfield 66, 3) := by decide +kernel
theorem dX5_boat_5 : decode cX5_boat 5 = .ok (.aload_n 0, 1) := by decide +kernel
theorem dX5_boat_6 : decode cX5_boat 6 = .ok (.iload_n 1, 1) := by decide +kernel
theorem dX5_boat_7 : decode cX5_boat 7 = .ok (.invokevirtual 82, 3) := by decide +kernel
theorem dX5_boat_10 : decode cX5_boat 10 = .ok (.ifCond .eq 13, 3) := by decide +kernel
theorem dX5_boat_13 : decode cX5_boat 13 = .ok (.iload_n 2, 1) := by decide +kernel
theorem dX5_boat_14 : decode cX5_boat 14 = .ok (.iconst 1, 1) := by decide +kernel
theorem dX5_boat_15 : decode cX5_boat 15 = .ok (.bipush 90, 2) := by decide +kernel
theorem dX5_boat_17 : decode cX5_boat 17 = .ok (.invokestatic 69, 3) := by decide +kernel
theorem dX5_boat_20 : decode cX5_boat 20 = .ok (.ifCond .ne 5, 3) := by decide +kernel
theorem dX5_boat_23 : decode cX5_boat 23 = .ok (.iconst (-1), 1) := by decide +kernel
theorem dX5_boat_24 : decode cX5_boat 24 = .ok (.ireturn, 1) := by decide +kernel
theorem dX5_boat_25 : decode cX5_boat 25 = .ok (.aload_n 0, 1) := by decide +kernel
theorem dX5_boat_26 : decode cX5_boat 26 = .ok (.iload_n 1, 1) := by decide +kernel
theorem dX5_boat_27 : decode cX5_boat 27 = .ok (.invokevirtual 98, 3) := by decide +kernel
theorem dX5_boat_30 : decode cX5_boat 30 = .ok (.ifCond .eq 6, 3) := by decide +kernel
theorem dX5_boat_33 : decode cX5_boat 33 = .ok (.bipush (-2), 2) := by decide +kernel
theorem dX5_boat_35 : decode cX5_boat 35 = .ok (.ireturn, 1) := by decide +kernel
theorem dX5_boat_36 : decode cX5_boat 36 = .ok (.aload_n 0, 1) := by decide +kernel
theorem dX5_boat_37 : decode cX5_boat 37 = .ok (.getfield 28, 3) := by decide +kernel
theorem dX5_boat_40 : decode cX5_boat 40 = .ok (.iload_n 1, 1) := by decide +kernel
theorem dX5_boat_41 : decode cX5_boat 41 = .ok (.aload_n 0, 1) := by decide +kernel
theorem dX5_boat_42 : decode cX5_boat 42 = .ok (.getfield 28, 3) := by decide +kernel
theorem dX5_boat_45 : decode cX5_boat 45 = .ok (.iload_n 1, 1) := by decide +kernel
theorem dX5_boat_46 : decode cX5_boat 46 = .ok (.iaload, 1) := by decide +kernel
theorem dX5_boat_47 : decode cX5_boat 47 = .ok (.iload_n 2, 1) := by decide +kernel
theorem dX5_boat_48 : decode cX5_boat 48 = .ok (.iadd, 1) := by decide +kernel
theorem dX5_boat_49 : decode cX5_boat 49 = .ok (.bipush 90, 2) := by decide +kernel
theorem dX5_boat_51 : decode cX5_boat 51 = .ok (.if_icmp .le 8, 3) := by decide +kernel
theorem dX5_boat_54 : decode cX5_boat 54 = .ok (.bipush 90, 2) := by decide +kernel
theorem dX5_boat_56 : decode cX5_boat 56 = .ok (.goto 11, 3) := by decide +kernel
theorem dX5_boat_59 : decode cX5_boat 59 = .ok (.aload_n 0, 1) := by decide +kernel
theorem dX5_boat_60 : decode cX5_boat 60 = .ok (.getfield 28, 3) := by decide +kernel
theorem dX5_boat_63 : decode cX5_boat 63 = .ok (.iload_n 1, 1) := by decide +kernel
theorem dX5_boat_64 : decode cX5_boat 64 = .ok (.iaload, 1) := by decide +kernel
theorem dX5_boat_65 : decode cX5_boat 65 = .ok (.iload_n 2, 1) := by decide +kernel
theorem dX5_boat_66 : decode cX5_boat 66 = .ok (.iadd, 1) := by decide +kernel
theorem dX5_boat_67 : decode cX5_boat 67 = .ok (.iastore, 1) := by decide +kernel
theorem dX5_boat_68 : decode cX5_boat 68 = .ok (.aload_n 0, 1) := by decide +kernel
theorem dX5_boat_69 : decode cX5_boat 69 = .ok (.getfield 28, 3) := by decide +kernel
theorem dX5_boat_72 : decode cX5_boat 72 = .ok (.iload_n 1, 1) := by decide +kernel
theorem dX5_boat_73 : decode cX5_boat 73 = .ok (.iaload, 1) := by decide +kernel
theorem dX5_boat_74 : decode cX5_boat 74 = .ok (.ireturn, 1) := by decide +kernel
theorem dX5_sample_0 : decode cX5_sample 0 = .ok (.aload_n 0, 1) := by decide +kernel
theorem dX5_sample_1 : decode cX5_sample 1 = .ok (.iconst 0, 1) := by decide +kernel
theorem dX5_sample_2 : decode cX5_sample 2 = .ok (.putfield 66, 3) := by decide +kernel
theorem dX5_sample_5 : decode cX5_sample 5 = .ok (.aload_n 0, 1) := by decide +kernel
theorem dX5_sample_6 : decode cX5_sample 6 = .ok (.iload_n 1, 1) := by decide +kernel
theorem dX5_sample_7 : decode cX5_sample 7 = .ok (.invokevirtual 82, 3) := by decide +kernel
theorem dX5_sample_10 : decode cX5_sample 10 = .ok (.ifCond .eq 13, 3) := by decide +kernel
theorem dX5_sample_13 : decode cX5_sample 13 = .ok (.iload_n 2, 1) := by decide +kernel
theorem dX5_sample_14 : decode cX5_sample 14 = .ok (.iconst 1, 1) := by decide +kernel
theorem dX5_sample_15 : decode cX5_sample 15 = .ok (.bipush 9, 2) := by decide +kernel
theorem dX5_sample_17 : decode cX5_sample 17 = .ok (.invokestatic 69, 3) := by decide +kernel
theorem dX5_sample_20 : decode cX5_sample 20 = .ok (.ifCond .ne 5, 3) := by decide +kernel
theorem dX5_sample_23 : decode cX5_sample 23 = .ok (.iconst (-1), 1) := by decide +kernel
theorem dX5_sample_24 : decode cX5_sample 24 = .ok (.ireturn, 1) := by decide +kernel
theorem dX5_sample_25 : decode cX5_sample 25 = .ok (.iconst 0, 1) := by decide +kernel
theorem dX5_sample_26 : decode cX5_sample 26 = .ok (.istore_n 3, 1) := by decide +kernel
theorem dX5_sample_27 : decode cX5_sample 27 = .ok (.iconst 0, 1) := by decide +kernel
theorem dX5_sample_28 : decode cX5_sample 28 = .ok (.istore 4, 2) := by decide +kernel
theorem dX5_sample_30 : decode cX5_sample 30 = .ok (.iconst 0, 1) := by decide +kernel
theorem dX5_sample_31 : decode cX5_sample 31 = .ok (.istore 5, 2) := by decide +kernel
theorem dX5_sample_33 : decode cX5_sample 33 = .ok (.iconst 0, 1) := by decide +kernel
theorem dX5_sample_34 : decode cX5_sample 34 = .ok (.istore 6, 2) := by decide +kernel
theorem dX5_sample_36 : decode cX5_sample 36 = .ok (.iload 6, 2) := by decide +kernel
theorem dX5_sample_38 : decode cX5_sample 38 = .ok (.aload_n 0, 1) := by decide +kernel
theorem dX5_sample_39 : decode cX5_sample 39 = .ok (.getfield 73, 3) := by decide +kernel
theorem dX5_sample_42 : decode cX5_sample 42 = .ok (.if_icmp .ge 68, 3) := by decide +kernel
theorem dX5_sample_45 : decode cX5_sample 45 = .ok (.iload_n 3, 1) := by decide +kernel
theorem dX5_sample_46 : decode cX5_sample 46 = .ok (.aload_n 0, 1) := by decide +kernel
theorem dX5_sample_47 : decode cX5_sample 47 = .ok (.getfield 34, 3) := by decide +kernel
theorem dX5_sample_50 : decode cX5_sample 50 = .ok (.bipush 6, 2) := by decide +kernel
theorem dX5_sample_52 : decode cX5_sample 52 = .ok (.iload_n 1, 1) := by decide +kernel
theorem dX5_sample_53 : decode cX5_sample 53 = .ok (.imul, 1) := by decide +kernel
theorem dX5_sample_54 : decode cX5_sample 54 = .ok (.iload 6, 2) := by decide +kernel
theorem dX5_sample_56 : decode cX5_sample 56 = .ok (.iadd, 1) := by decide +kernel
theorem dX5_sample_57 : decode cX5_sample 57 = .ok (.iaload, 1) := by decide +kernel
theorem dX5_sample_58 : decode cX5_sample 58 = .ok (.iadd, 1) := by decide +kernel
theorem dX5_sample_59 : decode cX5_sample 59 = .ok (.iload_n 2, 1) := by decide +kernel
theorem dX5_sample_60 : decode cX5_sample 60 = .ok (.idiv, 1) := by decide +kernel
theorem dX5_sample_61 : decode cX5_sample 61 = .ok (.iload_n 3, 1) := by decide +kernel
theorem dX5_sample_62 : decode cX5_sample 62 = .ok (.iload_n 2, 1) := by decide +kernel
theorem dX5_sample_63 : decode cX5_sample 63 = .ok (.idiv, 1) := by decide +kernel
theorem dX5_sample_64 : decode cX5_sample 64 = .ok (.isub, 1) := by decide +kernel
theorem dX5_sample_65 : decode cX5_sample 65 = .ok (.istore 7, 2) := by decide +kernel
theorem dX5_sample_67 : decode cX5_sample 67 = .ok (.iload_n 3, 1) := by decide +kernel
theorem dX5_sample_68 : decode cX5_sample 68 = .ok (.aload_n 0, 1) := by decide +kernel
theorem dX5_sample_69 : decode cX5_sample 69 = .ok (.getfield 34, 3) := by decide +kernel
theorem dX5_sample_72 : decode cX5_sample 72 = .ok (.bipush 6, 2) := by decide +kernel
theorem dX5_sample_74 : decode cX5_sample 74 = .ok (.iload_n 1, 1) := by decide +kernel
theorem dX5_sample_75 : decode cX5_sample 75 = .ok (.imul, 1) := by decide +kernel
theorem dX5_sample_76 : decode cX5_sample 76 = .ok (.iload 6, 2) := by decide +kernel
theorem dX5_sample_78 : decode cX5_sample 78 = .ok (.iadd, 1) := by decide +kernel
theorem dX5_sample_79 : decode cX5_sample 79 = .ok (.iaload, 1) := by decide +kernel
theorem dX5_sample_80 : decode cX5_sample 80 = .ok (.iadd, 1) := by decide +kernel
theorem dX5_sample_81 : decode cX5_sample 81 = .ok (.istore_n 3, 1) := by decide +kernel
theorem dX5_sample_82 : decode cX5_sample 82 = .ok (.iload 4, 2) := by decide +kernel
theorem dX5_sample_84 : decode cX5_sample 84 = .ok (.iload 7, 2) := by decide +kernel
theorem dX5_sample_86 : decode cX5_sample 86 = .ok (.aload_n 0, 1) := by decide +kernel
theorem dX5_sample_87 : decode cX5_sample 87 = .ok (.getfield 16, 3) := by decide +kernel
theorem dX5_sample_90 : decode cX5_sample 90 = .ok (.iload 6, 2) := by decide +kernel
theorem dX5_sample_92 : decode cX5_sample 92 = .ok (.iaload, 1) := by decide +kernel
theorem dX5_sample_93 : decode cX5_sample 93 = .ok (.imul, 1) := by decide +kernel
theorem dX5_sample_94 : decode cX5_sample 94 = .ok (.iadd, 1) := by decide +kernel
theorem dX5_sample_95 : decode cX5_sample 95 = .ok (.istore 4, 2) := by decide +kernel
theorem dX5_sample_97 : decode cX5_sample 97 = .ok (.iload 5, 2) := by decide +kernel
theorem dX5_sample_99 : decode cX5_sample 99 = .ok (.iload 7, 2) := by decide +kernel
theorem dX5_sample_101 : decode cX5_sample 101 = .ok (.iadd, 1) := by decide +kernel
theorem dX5_sample_102 : decode cX5_sample 102 = .ok (.istore 5, 2) := by decide +kernel
theorem dX5_sample_104 : decode cX5_sample 104 = .ok (.iinc 6 1, 3) := by decide +kernel
theorem dX5_sample_107 : decode cX5_sample 107 = .ok (.goto (-71), 3) := by decide +kernel
theorem dX5_sample_110 : decode cX5_sample 110 = .ok (.iload 5, 2) := by decide +kernel
theorem dX5_sample_112 : decode cX5_sample 112 = .ok (.ifCond .ne 8, 3) := by decide +kernel
theorem dX5_sample_115 : decode cX5_sample 115 = .ok (.bipush (-9), 2) := by decide +kernel
theorem dX5_sample_117 : decode cX5_sample 117 = .ok (.goto 8, 3) := by decide +kernel
theorem dX5_sample_120 : decode cX5_sample 120 = .ok (.iload 4, 2) := by decide +kernel
theorem dX5_sample_122 : decode cX5_sample 122 = .ok (.iload 5, 2) := by decide +kernel
theorem dX5_sample_124 : decode cX5_sample 124 = .ok (.idiv, 1) := by decide +kernel
theorem dX5_sample_125 : decode cX5_sample 125 = .ok (.ireturn, 1) := by decide +kernel
theorem dX5_type_0 : decode cX5_type 0 = .ok (.aload_n 0, 1) := by decide +kernel
theorem dX5_type_1 : decode cX5_type 1 = .ok (.iconst 0, 1) := by decide +kernel
theorem dX5_type_2 : decode cX5_type 2 = .ok (.putfield 66, 3) := by decide +kernel
theorem dX5_type_5 : decode cX5_type 5 = .ok (.iload_n 3, 1) := by decide +kernel
theorem dX5_type_6 : decode cX5_type 6 = .ok (.iconst 1, 1) := by decide +kernel
theorem dX5_type_7 : decode cX5_type 7 = .ok (.bipush 8, 2) := by decide +kernel
theorem dX5_type_9 : decode cX5_type 9 = .ok (.invokestatic 69, 3) := by decide +kernel
theorem dX5_type_12 : decode cX5_type 12 = .ok (.ifCond .ne 5, 3) := by decide +kernel
theorem dX5_type_15 : decode cX5_type 15 = .ok (.iconst (-1), 1) := by decide +kernel
theorem dX5_type_16 : decode cX5_type 16 = .ok (.ireturn, 1) := by decide +kernel
theorem dX5_type_17 : decode cX5_type 17 = .ok (.aload_n 0, 1) := by decide +kernel
theorem dX5_type_18 : decode cX5_type 18 = .ok (.getfield 117, 3) := by decide +kernel
theorem dX5_type_21 : decode cX5_type 21 = .ok (.iload_n 3, 1) := by decide +kernel
theorem dX5_type_22 : decode cX5_type 22 = .ok (.iadd, 1) := by decide +kernel
theorem dX5_type_23 : decode cX5_type 23 = .ok (.bipush 30, 2) := by decide +kernel
theorem dX5_type_25 : decode cX5_type 25 = .ok (.if_icmp .le 6, 3) := by decide +kernel
theorem dX5_type_28 : decode cX5_type 28 = .ok (.bipush (-3), 2) := by decide +kernel
theorem dX5_type_30 : decode cX5_type 30 = .ok (.ireturn, 1) := by decide +kernel
theorem dX5_type_31 : decode cX5_type 31 = .ok (.iload_n 3, 1) := by decide +kernel
theorem dX5_type_32 : decode cX5_type 32 = .ok (.iconst 1, 1) := by decide +kernel
theorem dX5_type_33 : decode cX5_type 33 = .ok (.isub, 1) := by decide +kernel
theorem dX5_type_34 : decode cX5_type 34 = .ok (.istore 4, 2) := by decide +kernel
theorem dX5_type_36 : decode cX5_type 36 = .ok (.iload 4, 2) := by decide +kernel
theorem dX5_type_38 : decode cX5_type 38 = .ok (.ifCond .lt 40, 3) := by decide +kernel
theorem dX5_type_41 : decode cX5_type 41 = .ok (.aload_n 0, 1) := by decide +kernel
theorem dX5_type_42 : decode cX5_type 42 = .ok (.getfield 53, 3) := by decide +kernel
theorem dX5_type_45 : decode cX5_type 45 = .ok (.aload_n 0, 1) := by decide +kernel
theorem dX5_type_46 : decode cX5_type 46 = .ok (.getfield 117, 3) := by decide +kernel
theorem dX5_type_49 : decode cX5_type 49 = .ok (.lload_n 1, 1) := by decide +kernel
theorem dX5_type_50 : decode cX5_type 50 = .ok (.bipush 8, 2) := by decide +kernel
theorem dX5_type_52 : decode cX5_type 52 = .ok (.iload 4, 2) := by decide +kernel
theorem dX5_type_54 : decode cX5_type 54 = .ok (.imul, 1) := by decide +kernel
theorem dX5_type_55 : decode cX5_type 55 = .ok (.lshr, 1) := by decide +kernel
theorem dX5_type_56 : decode cX5_type 56 = .ok (.ldc2_w 120, 3) := by decide +kernel
theorem dX5_type_59 : decode cX5_type 59 = .ok (.land, 1) := by decide +kernel
theorem dX5_type_60 : decode cX5_type 60 = .ok (.l2i, 1) := by decide +kernel
theorem dX5_type_61 : decode cX5_type 61 = .ok (.iastore, 1) := by decide +kernel
theorem dX5_type_62 : decode cX5_type 62 = .ok (.aload_n 0, 1) := by decide +kernel
theorem dX5_type_63 : decode cX5_type 63 = .ok (.dup, 1) := by decide +kernel
theorem dX5_type_64 : decode cX5_type 64 = .ok (.getfield 117, 3) := by decide +kernel
theorem dX5_type_67 : decode cX5_type 67 = .ok (.iconst 1, 1) := by decide +kernel
theorem dX5_type_68 : decode cX5_type 68 = .ok (.iadd, 1) := by decide +kernel
theorem dX5_type_69 : decode cX5_type 69 = .ok (.putfield 117, 3) := by decide +kernel
theorem dX5_type_72 : decode cX5_type 72 = .ok (.iinc 4 (-1), 3) := by decide +kernel
theorem dX5_type_75 : decode cX5_type 75 = .ok (.goto (-39), 3) := by decide +kernel
theorem dX5_type_78 : decode cX5_type 78 = .ok (.aload_n 0, 1) := by decide +kernel
theorem dX5_type_79 : decode cX5_type 79 = .ok (.getfield 117, 3) := by decide +kernel
theorem dX5_type_82 : decode cX5_type 82 = .ok (.ireturn, 1) := by decide +kernel
theorem dX5_clear_0 : decode cX5_clear 0 = .ok (.aload_n 0, 1) := by decide +kernel
theorem dX5_clear_1 : decode cX5_clear 1 = .ok (.iconst 0, 1) := by decide +kernel
theorem dX5_clear_2 : decode cX5_clear 2 = .ok (.putfield 66, 3) := by decide +kernel
theorem dX5_clear_5 : decode cX5_clear 5 = .ok (.aload_n 0, 1) := by decide +kernel
theorem dX5_clear_6 : decode cX5_clear 6 = .ok (.getfield 117, 3) := by decide +kernel
theorem dX5_clear_9 : decode cX5_clear 9 = .ok (.istore_n 1, 1) := by decide +kernel
theorem dX5_clear_10 : decode cX5_clear 10 = .ok (.aload_n 0, 1) := by decide +kernel
theorem dX5_clear_11 : decode cX5_clear 11 = .ok (.iconst 0, 1) := by decide +kernel
theorem dX5_clear_12 : decode cX5_clear 12 = .ok (.putfield 117, 3) := by decide +kernel
theorem dX5_clear_15 : decode cX5_clear 15 = .ok (.iload_n 1, 1) := by decide +kernel
theorem dX5_clear_16 : decode cX5_clear 16 = .ok (.ireturn, 1) := by decide +kernel
theorem dX5_isDigit_0 : decode cX5_isDigit 0 = .ok (.iload_n 1, 1) := by decide +kernel
theorem dX5_isDigit_1 : decode cX5_isDigit 1 = .ok (.aload_n 0, 1) := by decide +kernel
theorem dX5_isDigit_2 : decode cX5_isDigit 2 = .ok (.getfield 117, 3) := by decide +kernel
theorem dX5_isDigit_5 : decode cX5_isDigit 5 = .ok (.if_icmp .ge 23, 3) := by decide +kernel
theorem dX5_isDigit_8 : decode cX5_isDigit 8 = .ok (.aload_n 0, 1) := by decide +kernel
theorem dX5_isDigit_9 : decode cX5_isDigit 9 = .ok (.getfield 53, 3) := by decide +kernel
theorem dX5_isDigit_12 : decode cX5_isDigit 12 = .ok (.iload_n 1, 1) := by decide +kernel
theorem dX5_isDigit_13 : decode cX5_isDigit 13 = .ok (.iaload, 1) := by decide +kernel
theorem dX5_isDigit_14 : decode cX5_isDigit 14 = .ok (.bipush 48, 2) := by decide +kernel
theorem dX5_isDigit_16 : decode cX5_isDigit 16 = .ok (.bipush 57, 2) := by decide +kernel
theorem dX5_isDigit_18 : decode cX5_isDigit 18 = .ok (.invokestatic 69, 3) := by decide +kernel
theorem dX5_isDigit_21 : decode cX5_isDigit 21 = .ok (.ifCond .eq 7, 3) := by decide +kernel
theorem dX5_isDigit_24 : decode cX5_isDigit 24 = .ok (.iconst 1, 1) := by decide +kernel
theorem dX5_isDigit_25 : decode cX5_isDigit 25 = .ok (.goto 4, 3) := by decide +kernel
theorem dX5_isDigit_28 : decode cX5_isDigit 28 = .ok (.iconst 0, 1) := by decide +kernel
theorem dX5_isDigit_29 : decode cX5_isDigit 29 = .ok (.ireturn, 1) := by decide +kernel
theorem dX5_faultOf_0 : decode cX5_faultOf 0 = .ok (.iconst 0, 1) := by decide +kernel
theorem dX5_faultOf_1 : decode cX5_faultOf 1 = .ok (.istore_n 1, 1) := by decide +kernel
theorem dX5_faultOf_2 : decode cX5_faultOf 2 = .ok (.iload_n 1, 1) := by decide +kernel
theorem dX5_faultOf_3 : decode cX5_faultOf 3 = .ok (.bipush 6, 2) := by decide +kernel
theorem dX5_faultOf_5 : decode cX5_faultOf 5 = .ok (.if_icmp .ge 16, 3) := by decide +kernel
theorem dX5_faultOf_8 : decode cX5_faultOf 8 = .ok (.aload_n 0, 1) := by decide +kernel
theorem dX5_faultOf_9 : decode cX5_faultOf 9 = .ok (.getfield 59, 3) := by decide +kernel
theorem dX5_faultOf_12 : decode cX5_faultOf 12 = .ok (.iload_n 1, 1) := by decide +kernel
theorem dX5_faultOf_13 : decode cX5_faultOf 13 = .ok (.iconst 0, 1) := by decide +kernel
theorem dX5_faultOf_14 : decode cX5_faultOf 14 = .ok (.iastore, 1) := by decide +kernel
theorem dX5_faultOf_15 : decode cX5_faultOf 15 = .ok (.iinc 1 1, 3) := by decide +kernel
theorem dX5_faultOf_18 : decode cX5_faultOf 18 = .ok (.goto (-16), 3) := by decide +kernel
theorem dX5_faultOf_21 : decode cX5_faultOf 21 = .ok (.iconst 0, 1) := by decide +kernel
theorem dX5_faultOf_22 : decode cX5_faultOf 22 = .ok (.istore_n 1, 1) := by decide +kernel
theorem dX5_faultOf_23 : decode cX5_faultOf 23 = .ok (.iload_n 1, 1) := by decide +kernel
theorem dX5_faultOf_24 : decode cX5_faultOf 24 = .ok (.aload_n 0, 1) := by decide +kernel
theorem dX5_faultOf_25 : decode cX5_faultOf 25 = .ok (.getfield 117, 3) := by decide +kernel
theorem dX5_faultOf_28 : decode cX5_faultOf 28 = .ok (.if_icmp .ge 164, 3) := by decide +kernel
theorem dX5_faultOf_31 : decode cX5_faultOf 31 = .ok (.aload_n 0, 1) := by decide +kernel
theorem dX5_faultOf_32 : decode cX5_faultOf 32 = .ok (.getfield 53, 3) := by decide +kernel
theorem dX5_faultOf_35 : decode cX5_faultOf 35 = .ok (.iload_n 1, 1) := by decide +kernel
theorem dX5_faultOf_36 : decode cX5_faultOf 36 = .ok (.iaload, 1) := by decide +kernel
theorem dX5_faultOf_37 : decode cX5_faultOf 37 = .ok (.istore_n 2, 1) := by decide +kernel
theorem dX5_faultOf_38 : decode cX5_faultOf 38 = .ok (.iload_n 2, 1) := by decide +kernel
theorem dX5_faultOf_39 : decode cX5_faultOf 39 = .ok (.bipush 108, 2) := by decide +kernel
theorem dX5_faultOf_41 : decode cX5_faultOf 41 = .ok (.if_icmp .ne 7, 3) := by decide +kernel
theorem dX5_faultOf_44 : decode cX5_faultOf 44 = .ok (.iconst 0, 1) := by decide +kernel
theorem dX5_faultOf_45 : decode cX5_faultOf 45 = .ok (.goto 55, 3) := by decide +kernel
theorem dX5_faultOf_48 : decode cX5_faultOf 48 = .ok (.iload_n 2, 1) := by decide +kernel
theorem dX5_faultOf_49 : decode cX5_faultOf 49 = .ok (.bipush 100, 2) := by decide +kernel
theorem dX5_faultOf_51 : decode cX5_faultOf 51 = .ok (.if_icmp .ne 7, 3) := by decide +kernel
theorem dX5_faultOf_54 : decode cX5_faultOf 54 = .ok (.iconst 1, 1) := by decide +kernel
theorem dX5_faultOf_55 : decode cX5_faultOf 55 = .ok (.goto 45, 3) := by decide +kernel
theorem dX5_faultOf_58 : decode cX5_faultOf 58 = .ok (.iload_n 2, 1) := by decide +kernel
theorem dX5_faultOf_59 : decode cX5_faultOf 59 = .ok (.bipush 98, 2) := by decide +kernel
theorem dX5_faultOf_61 : decode cX5_faultOf 61 = .ok (.if_icmp .ne 7, 3) := by decide +kernel
theorem dX5_faultOf_64 : decode cX5_faultOf 64 = .ok (.iconst 2, 1) := by decide +kernel
theorem dX5_faultOf_65 : decode cX5_faultOf 65 = .ok (.goto 35, 3) := by decide +kernel
theorem dX5_faultOf_68 : decode cX5_faultOf 68 = .ok (.iload_n 2, 1) := by decide +kernel
theorem dX5_faultOf_69 : decode cX5_faultOf 69 = .ok (.bipush 120, 2) := by decide +kernel
theorem dX5_faultOf_71 : decode cX5_faultOf 71 = .ok (.if_icmp .ne 7, 3) := by decide +kernel
theorem dX5_faultOf_74 : decode cX5_faultOf 74 = .ok (.iconst 3, 1) := by decide +kernel
theorem dX5_faultOf_75 : decode cX5_faultOf 75 = .ok (.goto 25, 3) := by decide +kernel
theorem dX5_faultOf_78 : decode cX5_faultOf 78 = .ok (.iload_n 2, 1) := by decide +kernel
theorem dX5_faultOf_79 : decode cX5_faultOf 79 = .ok (.bipush 104, 2) := by decide +kernel
theorem dX5_faultOf_81 : decode cX5_faultOf 81 = .ok (.if_icmp .ne 7, 3) := by decide +kernel
theorem dX5_faultOf_84 : decode cX5_faultOf 84 = .ok (.iconst 4, 1) := by decide +kernel
theorem dX5_faultOf_85 : decode cX5_faultOf 85 = .ok (.goto 15, 3) := by decide +kernel
theorem dX5_faultOf_88 : decode cX5_faultOf 88 = .ok (.iload_n 2, 1) := by decide +kernel
theorem dX5_faultOf_89 : decode cX5_faultOf 89 = .ok (.bipush 119, 2) := by decide +kernel
theorem dX5_faultOf_91 : decode cX5_faultOf 91 = .ok (.if_icmp .ne 7, 3) := by decide +kernel
theorem dX5_faultOf_94 : decode cX5_faultOf 94 = .ok (.iconst 5, 1) := by decide +kernel
theorem dX5_faultOf_95 : decode cX5_faultOf 95 = .ok (.goto 5, 3) := by decide +kernel
theorem dX5_faultOf_98 : decode cX5_faultOf 98 = .ok (.bipush 6, 2) := by decide +kernel
theorem dX5_faultOf_100 : decode cX5_faultOf 100 = .ok (.istore_n 3, 1) := by decide +kernel
theorem dX5_faultOf_101 : decode cX5_faultOf 101 = .ok (.iload_n 3, 1) := by decide +kernel
theorem dX5_faultOf_102 : decode cX5_faultOf 102 = .ok (.bipush 6, 2) := by decide +kernel
theorem dX5_faultOf_104 : decode cX5_faultOf 104 = .ok (.if_icmp .ne 5, 3) := by decide +kernel
theorem dX5_faultOf_107 : decode cX5_faultOf 107 = .ok (.iload_n 1, 1) := by decide +kernel
theorem dX5_faultOf_108 : decode cX5_faultOf 108 = .ok (.ireturn, 1) := by decide +kernel
theorem dX5_faultOf_109 : decode cX5_faultOf 109 = .ok (.iinc 1 1, 3) := by decide +kernel
theorem dX5_faultOf_112 : decode cX5_faultOf 112 = .ok (.iload_n 3, 1) := by decide +kernel
theorem dX5_faultOf_113 : decode cX5_faultOf 113 = .ok (.iconst 2, 1) := by decide +kernel
theorem dX5_faultOf_114 : decode cX5_faultOf 114 = .ok (.if_icmp .le 13, 3) := by decide +kernel
theorem dX5_faultOf_117 : decode cX5_faultOf 117 = .ok (.aload_n 0, 1) := by decide +kernel
theorem dX5_faultOf_118 : decode cX5_faultOf 118 = .ok (.getfield 59, 3) := by decide +kernel
theorem dX5_faultOf_121 : decode cX5_faultOf 121 = .ok (.iload_n 3, 1) := by decide +kernel
theorem dX5_faultOf_122 : decode cX5_faultOf 122 = .ok (.iconst 1, 1) := by decide +kernel
theorem dX5_faultOf_123 : decode cX5_faultOf 123 = .ok (.iastore, 1) := by decide +kernel
theorem dX5_faultOf_124 : decode cX5_faultOf 124 = .ok (.goto 65, 3) := by decide +kernel
theorem dX5_faultOf_127 : decode cX5_faultOf 127 = .ok (.aload_n 0, 1) := by decide +kernel
theorem dX5_faultOf_128 : decode cX5_faultOf 128 = .ok (.iload_n 1, 1) := by decide +kernel
theorem dX5_faultOf_129 : decode cX5_faultOf 129 = .ok (.invokevirtual 122, 3) := by decide +kernel
theorem dX5_faultOf_132 : decode cX5_faultOf 132 = .ok (.ifCond .ne 5, 3) := by decide +kernel
theorem dX5_faultOf_135 : decode cX5_faultOf 135 = .ok (.iload_n 1, 1) := by decide +kernel
theorem dX5_faultOf_136 : decode cX5_faultOf 136 = .ok (.ireturn, 1) := by decide +kernel
theorem dX5_faultOf_137 : decode cX5_faultOf 137 = .ok (.iconst 0, 1) := by decide +kernel
theorem dX5_faultOf_138 : decode cX5_faultOf 138 = .ok (.istore 4, 2) := by decide +kernel
theorem dX5_faultOf_140 : decode cX5_faultOf 140 = .ok (.aload_n 0, 1) := by decide +kernel
theorem dX5_faultOf_141 : decode cX5_faultOf 141 = .ok (.iload_n 1, 1) := by decide +kernel
theorem dX5_faultOf_142 : decode cX5_faultOf 142 = .ok (.invokevirtual 122, 3) := by decide +kernel
theorem dX5_faultOf_145 : decode cX5_faultOf 145 = .ok (.ifCond .eq 36, 3) := by decide +kernel
theorem dX5_faultOf_148 : decode cX5_faultOf 148 = .ok (.bipush 10, 2) := by decide +kernel
theorem dX5_faultOf_150 : decode cX5_faultOf 150 = .ok (.iload 4, 2) := by decide +kernel
theorem dX5_faultOf_152 : decode cX5_faultOf 152 = .ok (.imul, 1) := by decide +kernel
theorem dX5_faultOf_153 : decode cX5_faultOf 153 = .ok (.aload_n 0, 1) := by decide +kernel
theorem dX5_faultOf_154 : decode cX5_faultOf 154 = .ok (.getfield 53, 3) := by decide +kernel
theorem dX5_faultOf_157 : decode cX5_faultOf 157 = .ok (.iload_n 1, 1) := by decide +kernel
theorem dX5_faultOf_158 : decode cX5_faultOf 158 = .ok (.iaload, 1) := by decide +kernel
theorem dX5_faultOf_159 : decode cX5_faultOf 159 = .ok (.iadd, 1) := by decide +kernel
theorem dX5_faultOf_160 : decode cX5_faultOf 160 = .ok (.bipush 48, 2) := by decide +kernel
theorem dX5_faultOf_162 : decode cX5_faultOf 162 = .ok (.isub, 1) := by decide +kernel
theorem dX5_faultOf_163 : decode cX5_faultOf 163 = .ok (.istore 4, 2) := by decide +kernel
theorem dX5_faultOf_165 : decode cX5_faultOf 165 = .ok (.iload 4, 2) := by decide +kernel
theorem dX5_faultOf_167 : decode cX5_faultOf 167 = .ok (.sipush 999, 3) := by decide +kernel
theorem dX5_faultOf_170 : decode cX5_faultOf 170 = .ok (.if_icmp .le 5, 3) := by decide +kernel
theorem dX5_faultOf_173 : decode cX5_faultOf 173 = .ok (.iload_n 1, 1) := by decide +kernel
theorem dX5_faultOf_174 : decode cX5_faultOf 174 = .ok (.ireturn, 1) := by decide +kernel
theorem dX5_faultOf_175 : decode cX5_faultOf 175 = .ok (.iinc 1 1, 3) := by decide +kernel
theorem dX5_faultOf_178 : decode cX5_faultOf 178 = .ok (.goto (-38), 3) := by decide +kernel
theorem dX5_faultOf_181 : decode cX5_faultOf 181 = .ok (.aload_n 0, 1) := by decide +kernel
theorem dX5_faultOf_182 : decode cX5_faultOf 182 = .ok (.getfield 59, 3) := by decide +kernel
theorem dX5_faultOf_185 : decode cX5_faultOf 185 = .ok (.iload_n 3, 1) := by decide +kernel
theorem dX5_faultOf_186 : decode cX5_faultOf 186 = .ok (.iload 4, 2) := by decide +kernel
theorem dX5_faultOf_188 : decode cX5_faultOf 188 = .ok (.iastore, 1) := by decide +kernel
theorem dX5_faultOf_189 : decode cX5_faultOf 189 = .ok (.goto (-166), 3) := by decide +kernel
theorem dX5_faultOf_192 : decode cX5_faultOf 192 = .ok (.bipush (-9), 2) := by decide +kernel
theorem dX5_faultOf_194 : decode cX5_faultOf 194 = .ok (.ireturn, 1) := by decide +kernel
theorem dX5_charter_0 : decode cX5_charter 0 = .ok (.aload_n 0, 1) := by decide +kernel
theorem dX5_charter_1 : decode cX5_charter 1 = .ok (.iconst 0, 1) := by decide +kernel
theorem dX5_charter_2 : decode cX5_charter 2 = .ok (.putfield 66, 3) := by decide +kernel
theorem dX5_charter_5 : decode cX5_charter 5 = .ok (.aload_n 0, 1) := by decide +kernel
theorem dX5_charter_6 : decode cX5_charter 6 = .ok (.iload_n 1, 1) := by decide +kernel
theorem dX5_charter_7 : decode cX5_charter 7 = .ok (.invokevirtual 82, 3) := by decide +kernel
theorem dX5_charter_10 : decode cX5_charter 10 = .ok (.ifCond .ne 5, 3) := by decide +kernel
theorem dX5_charter_13 : decode cX5_charter 13 = .ok (.iconst (-1), 1) := by decide +kernel
theorem dX5_charter_14 : decode cX5_charter 14 = .ok (.ireturn, 1) := by decide +kernel
theorem dX5_charter_15 : decode cX5_charter 15 = .ok (.aload_n 0, 1) := by decide +kernel
theorem dX5_charter_16 : decode cX5_charter 16 = .ok (.getfield 117, 3) := by decide +kernel
theorem dX5_charter_19 : decode cX5_charter 19 = .ok (.ifCond .ne 6, 3) := by decide +kernel
theorem dX5_charter_22 : decode cX5_charter 22 = .ok (.bipush (-2), 2) := by decide +kernel
theorem dX5_charter_24 : decode cX5_charter 24 = .ok (.ireturn, 1) := by decide +kernel
theorem dX5_charter_25 : decode cX5_charter 25 = .ok (.aload_n 0, 1) := by decide +kernel
theorem dX5_charter_26 : decode cX5_charter 26 = .ok (.invokevirtual 125, 3) := by decide +kernel
theorem dX5_charter_29 : decode cX5_charter 29 = .ok (.istore_n 2, 1) := by decide +kernel
theorem dX5_charter_30 : decode cX5_charter 30 = .ok (.iload_n 2, 1) := by decide +kernel
theorem dX5_charter_31 : decode cX5_charter 31 = .ok (.bipush (-9), 2) := by decide +kernel
theorem dX5_charter_33 : decode cX5_charter 33 = .ok (.if_icmp .eq 8, 3) := by decide +kernel
theorem dX5_charter_36 : decode cX5_charter 36 = .ok (.bipush (-100), 2) := by decide +kernel
theorem dX5_charter_38 : decode cX5_charter 38 = .ok (.iload_n 2, 1) := by decide +kernel
theorem dX5_charter_39 : decode cX5_charter 39 = .ok (.isub, 1) := by decide +kernel
theorem dX5_charter_40 : decode cX5_charter 40 = .ok (.ireturn, 1) := by decide +kernel
theorem dX5_charter_41 : decode cX5_charter 41 = .ok (.iconst 0, 1) := by decide +kernel
theorem dX5_charter_42 : decode cX5_charter 42 = .ok (.istore_n 3, 1) := by decide +kernel
theorem dX5_charter_43 : decode cX5_charter 43 = .ok (.iload_n 3, 1) := by decide +kernel
theorem dX5_charter_44 : decode cX5_charter 44 = .ok (.bipush 6, 2) := by decide +kernel
theorem dX5_charter_46 : decode cX5_charter 46 = .ok (.if_icmp .ge 26, 3) := by decide +kernel
theorem dX5_charter_49 : decode cX5_charter 49 = .ok (.aload_n 0, 1) := by decide +kernel
theorem dX5_charter_50 : decode cX5_charter 50 = .ok (.getfield 56, 3) := by decide +kernel
theorem dX5_charter_53 : decode cX5_charter 53 = .ok (.bipush 6, 2) := by decide +kernel
theorem dX5_charter_55 : decode cX5_charter 55 = .ok (.iload_n 1, 1) := by decide +kernel
theorem dX5_charter_56 : decode cX5_charter 56 = .ok (.imul, 1) := by decide +kernel
theorem dX5_charter_57 : decode cX5_charter 57 = .ok (.iload_n 3, 1) := by decide +kernel
theorem dX5_charter_58 : decode cX5_charter 58 = .ok (.iadd, 1) := by decide +kernel
theorem dX5_charter_59 : decode cX5_charter 59 = .ok (.aload_n 0, 1) := by decide +kernel
theorem dX5_charter_60 : decode cX5_charter 60 = .ok (.getfield 59, 3) := by decide +kernel
theorem dX5_charter_63 : decode cX5_charter 63 = .ok (.iload_n 3, 1) := by decide +kernel
theorem dX5_charter_64 : decode cX5_charter 64 = .ok (.iaload, 1) := by decide +kernel
theorem dX5_charter_65 : decode cX5_charter 65 = .ok (.iastore, 1) := by decide +kernel
theorem dX5_charter_66 : decode cX5_charter 66 = .ok (.iinc 3 1, 3) := by decide +kernel
theorem dX5_charter_69 : decode cX5_charter 69 = .ok (.goto (-26), 3) := by decide +kernel
theorem dX5_charter_72 : decode cX5_charter 72 = .ok (.aload_n 0, 1) := by decide +kernel
theorem dX5_charter_73 : decode cX5_charter 73 = .ok (.iconst 0, 1) := by decide +kernel
theorem dX5_charter_74 : decode cX5_charter 74 = .ok (.putfield 117, 3) := by decide +kernel
theorem dX5_charter_77 : decode cX5_charter 77 = .ok (.iconst 1, 1) := by decide +kernel
theorem dX5_charter_78 : decode cX5_charter 78 = .ok (.ireturn, 1) := by decide +kernel
theorem dX5_term_0 : decode cX5_term 0 = .ok (.aload_n 0, 1) := by decide +kernel
theorem dX5_term_1 : decode cX5_term 1 = .ok (.iconst 0, 1) := by decide +kernel
theorem dX5_term_2 : decode cX5_term 2 = .ok (.putfield 66, 3) := by decide +kernel
theorem dX5_term_5 : decode cX5_term 5 = .ok (.aload_n 0, 1) := by decide +kernel
theorem dX5_term_6 : decode cX5_term 6 = .ok (.iload_n 1, 1) := by decide +kernel
theorem dX5_term_7 : decode cX5_term 7 = .ok (.invokevirtual 82, 3) := by decide +kernel
theorem dX5_term_10 : decode cX5_term 10 = .ok (.ifCond .eq 26, 3) := by decide +kernel
theorem dX5_term_13 : decode cX5_term 13 = .ok (.iload_n 2, 1) := by decide +kernel
theorem dX5_term_14 : decode cX5_term 14 = .ok (.iconst 0, 1) := by decide +kernel
theorem dX5_term_15 : decode cX5_term 15 = .ok (.iconst 5, 1) := by decide +kernel
theorem dX5_term_16 : decode cX5_term 16 = .ok (.invokestatic 69, 3) := by decide +kernel
theorem dX5_term_19 : decode cX5_term 19 = .ok (.ifCond .eq 17, 3) := by decide +kernel
theorem dX5_term_22 : decode cX5_term 22 = .ok (.aload_n 0, 1) := by decide +kernel
theorem dX5_term_23 : decode cX5_term 23 = .ok (.getfield 56, 3) := by decide +kernel
theorem dX5_term_26 : decode cX5_term 26 = .ok (.bipush 6, 2) := by decide +kernel
theorem dX5_term_28 : decode cX5_term 28 = .ok (.iload_n 1, 1) := by decide +kernel
theorem dX5_term_29 : decode cX5_term 29 = .ok (.imul, 1) := by decide +kernel
theorem dX5_term_30 : decode cX5_term 30 = .ok (.iload_n 2, 1) := by decide +kernel
theorem dX5_term_31 : decode cX5_term 31 = .ok (.iadd, 1) := by decide +kernel
theorem dX5_term_32 : decode cX5_term 32 = .ok (.iaload, 1) := by decide +kernel
theorem dX5_term_33 : decode cX5_term 33 = .ok (.goto 4, 3) := by decide +kernel
theorem dX5_term_36 : decode cX5_term 36 = .ok (.iconst (-1), 1) := by decide +kernel
theorem dX5_term_37 : decode cX5_term 37 = .ok (.ireturn, 1) := by decide +kernel
theorem dX5_counts_0 : decode cX5_counts 0 = .ok (.aload_n 0, 1) := by decide +kernel
theorem dX5_counts_1 : decode cX5_counts 1 = .ok (.getfield 56, 3) := by decide +kernel
theorem dX5_counts_4 : decode cX5_counts 4 = .ok (.bipush 6, 2) := by decide +kernel
theorem dX5_counts_6 : decode cX5_counts 6 = .ok (.iload_n 1, 1) := by decide +kernel
theorem dX5_counts_7 : decode cX5_counts 7 = .ok (.imul, 1) := by decide +kernel
theorem dX5_counts_8 : decode cX5_counts 8 = .ok (.iconst 3, 1) := by decide +kernel
theorem dX5_counts_9 : decode cX5_counts 9 = .ok (.iadd, 1) := by decide +kernel
theorem dX5_counts_10 : decode cX5_counts 10 = .ok (.iaload, 1) := by decide +kernel
theorem dX5_counts_11 : decode cX5_counts 11 = .ok (.iconst 1, 1) := by decide +kernel
theorem dX5_counts_12 : decode cX5_counts 12 = .ok (.if_icmp .ne 13, 3) := by decide +kernel
theorem dX5_counts_15 : decode cX5_counts 15 = .ok (.aload_n 0, 1) := by decide +kernel
theorem dX5_counts_16 : decode cX5_counts 16 = .ok (.getfield 7, 3) := by decide +kernel
theorem dX5_counts_19 : decode cX5_counts 19 = .ok (.iload_n 2, 1) := by decide +kernel
theorem dX5_counts_20 : decode cX5_counts 20 = .ok (.iaload, 1) := by decide +kernel
theorem dX5_counts_21 : decode cX5_counts 21 = .ok (.iconst 4, 1) := by decide +kernel
theorem dX5_counts_22 : decode cX5_counts 22 = .ok (.if_icmp .gt 57, 3) := by decide +kernel
theorem dX5_counts_25 : decode cX5_counts 25 = .ok (.aload_n 0, 1) := by decide +kernel
theorem dX5_counts_26 : decode cX5_counts 26 = .ok (.getfield 56, 3) := by decide +kernel
theorem dX5_counts_29 : decode cX5_counts 29 = .ok (.bipush 6, 2) := by decide +kernel
theorem dX5_counts_31 : decode cX5_counts 31 = .ok (.iload_n 1, 1) := by decide +kernel
theorem dX5_counts_32 : decode cX5_counts 32 = .ok (.imul, 1) := by decide +kernel
theorem dX5_counts_33 : decode cX5_counts 33 = .ok (.iconst 4, 1) := by decide +kernel
theorem dX5_counts_34 : decode cX5_counts 34 = .ok (.iadd, 1) := by decide +kernel
theorem dX5_counts_35 : decode cX5_counts 35 = .ok (.iaload, 1) := by decide +kernel
theorem dX5_counts_36 : decode cX5_counts 36 = .ok (.iconst 1, 1) := by decide +kernel
theorem dX5_counts_37 : decode cX5_counts 37 = .ok (.if_icmp .ne 12, 3) := by decide +kernel
theorem dX5_counts_40 : decode cX5_counts 40 = .ok (.iload_n 2, 1) := by decide +kernel
theorem dX5_counts_41 : decode cX5_counts 41 = .ok (.bipush 7, 2) := by decide +kernel
theorem dX5_counts_43 : decode cX5_counts 43 = .ok (.irem, 1) := by decide +kernel
theorem dX5_counts_44 : decode cX5_counts 44 = .ok (.bipush 6, 2) := by decide +kernel
theorem dX5_counts_46 : decode cX5_counts 46 = .ok (.if_icmp .eq 33, 3) := by decide +kernel
theorem dX5_counts_49 : decode cX5_counts 49 = .ok (.aload_n 0, 1) := by decide +kernel
theorem dX5_counts_50 : decode cX5_counts 50 = .ok (.getfield 56, 3) := by decide +kernel
theorem dX5_counts_53 : decode cX5_counts 53 = .ok (.bipush 6, 2) := by decide +kernel
theorem dX5_counts_55 : decode cX5_counts 55 = .ok (.iload_n 1, 1) := by decide +kernel
theorem dX5_counts_56 : decode cX5_counts 56 = .ok (.imul, 1) := by decide +kernel
theorem dX5_counts_57 : decode cX5_counts 57 = .ok (.iconst 5, 1) := by decide +kernel
theorem dX5_counts_58 : decode cX5_counts 58 = .ok (.iadd, 1) := by decide +kernel
theorem dX5_counts_59 : decode cX5_counts 59 = .ok (.iaload, 1) := by decide +kernel
theorem dX5_counts_60 : decode cX5_counts 60 = .ok (.iconst 1, 1) := by decide +kernel
theorem dX5_counts_61 : decode cX5_counts 61 = .ok (.if_icmp .ne 22, 3) := by decide +kernel
theorem dX5_counts_64 : decode cX5_counts 64 = .ok (.aload_n 0, 1) := by decide +kernel
theorem dX5_counts_65 : decode cX5_counts 65 = .ok (.getfield 37, 3) := by decide +kernel
theorem dX5_counts_68 : decode cX5_counts 68 = .ok (.sipush 201, 3) := by decide +kernel
theorem dX5_counts_71 : decode cX5_counts 71 = .ok (.iload_n 1, 1) := by decide +kernel
theorem dX5_counts_72 : decode cX5_counts 72 = .ok (.imul, 1) := by decide +kernel
theorem dX5_counts_73 : decode cX5_counts 73 = .ok (.iload_n 2, 1) := by decide +kernel
theorem dX5_counts_74 : decode cX5_counts 74 = .ok (.iadd, 1) := by decide +kernel
theorem dX5_counts_75 : decode cX5_counts 75 = .ok (.iaload, 1) := by decide +kernel
theorem dX5_counts_76 : decode cX5_counts 76 = .ok (.ifCond .ge 7, 3) := by decide +kernel
theorem dX5_counts_79 : decode cX5_counts 79 = .ok (.iconst 1, 1) := by decide +kernel
theorem dX5_counts_80 : decode cX5_counts 80 = .ok (.goto 4, 3) := by decide +kernel
theorem dX5_counts_83 : decode cX5_counts 83 = .ok (.iconst 0, 1) := by decide +kernel
theorem dX5_counts_84 : decode cX5_counts 84 = .ok (.istore_n 3, 1) := by decide +kernel
theorem dX5_counts_85 : decode cX5_counts 85 = .ok (.iload_n 3, 1) := by decide +kernel
theorem dX5_counts_86 : decode cX5_counts 86 = .ok (.ifCond .ne 7, 3) := by decide +kernel
theorem dX5_counts_89 : decode cX5_counts 89 = .ok (.iconst 1, 1) := by decide +kernel
theorem dX5_counts_90 : decode cX5_counts 90 = .ok (.goto 4, 3) := by decide +kernel
theorem dX5_counts_93 : decode cX5_counts 93 = .ok (.iconst 0, 1) := by decide +kernel
theorem dX5_counts_94 : decode cX5_counts 94 = .ok (.ireturn, 1) := by decide +kernel
theorem dX5_last_0 : decode cX5_last 0 = .ok (.aload_n 0, 1) := by decide +kernel
theorem dX5_last_1 : decode cX5_last 1 = .ok (.iload_n 1, 1) := by decide +kernel
theorem dX5_last_2 : decode cX5_last 2 = .ok (.invokevirtual 98, 3) := by decide +kernel
theorem dX5_last_5 : decode cX5_last 5 = .ok (.ifCond .eq 12, 3) := by decide +kernel
theorem dX5_last_8 : decode cX5_last 8 = .ok (.aload_n 0, 1) := by decide +kernel
theorem dX5_last_9 : decode cX5_last 9 = .ok (.getfield 31, 3) := by decide +kernel
theorem dX5_last_12 : decode cX5_last 12 = .ok (.iload_n 1, 1) := by decide +kernel
theorem dX5_last_13 : decode cX5_last 13 = .ok (.iaload, 1) := by decide +kernel
theorem dX5_last_14 : decode cX5_last 14 = .ok (.goto 9, 3) := by decide +kernel
theorem dX5_last_17 : decode cX5_last 17 = .ok (.aload_n 0, 1) := by decide +kernel
theorem dX5_last_18 : decode cX5_last 18 = .ok (.getfield 76, 3) := by decide +kernel
theorem dX5_last_21 : decode cX5_last 21 = .ok (.iconst 1, 1) := by decide +kernel
theorem dX5_last_22 : decode cX5_last 22 = .ok (.isub, 1) := by decide +kernel
theorem dX5_last_23 : decode cX5_last 23 = .ok (.ireturn, 1) := by decide +kernel
theorem dX5_usedOf_0 : decode cX5_usedOf 0 = .ok (.iconst 0, 1) := by decide +kernel
theorem dX5_usedOf_1 : decode cX5_usedOf 1 = .ok (.istore_n 2, 1) := by decide +kernel
theorem dX5_usedOf_2 : decode cX5_usedOf 2 = .ok (.aload_n 0, 1) := by decide +kernel
theorem dX5_usedOf_3 : decode cX5_usedOf 3 = .ok (.getfield 22, 3) := by decide +kernel
theorem dX5_usedOf_6 : decode cX5_usedOf 6 = .ok (.iload_n 1, 1) := by decide +kernel
theorem dX5_usedOf_7 : decode cX5_usedOf 7 = .ok (.iaload, 1) := by decide +kernel
theorem dX5_usedOf_8 : decode cX5_usedOf 8 = .ok (.istore_n 3, 1) := by decide +kernel
theorem dX5_usedOf_9 : decode cX5_usedOf 9 = .ok (.iload_n 3, 1) := by decide +kernel
theorem dX5_usedOf_10 : decode cX5_usedOf 10 = .ok (.aload_n 0, 1) := by decide +kernel
theorem dX5_usedOf_11 : decode cX5_usedOf 11 = .ok (.iload_n 1, 1) := by decide +kernel
theorem dX5_usedOf_12 : decode cX5_usedOf 12 = .ok (.invokevirtual 129, 3) := by decide +kernel
theorem dX5_usedOf_15 : decode cX5_usedOf 15 = .ok (.if_icmp .gt 26, 3) := by decide +kernel
theorem dX5_usedOf_18 : decode cX5_usedOf 18 = .ok (.iload_n 2, 1) := by decide +kernel
theorem dX5_usedOf_19 : decode cX5_usedOf 19 = .ok (.aload_n 0, 1) := by decide +kernel
theorem dX5_usedOf_20 : decode cX5_usedOf 20 = .ok (.iload_n 1, 1) := by decide +kernel
theorem dX5_usedOf_21 : decode cX5_usedOf 21 = .ok (.iload_n 3, 1) := by decide +kernel
theorem dX5_usedOf_22 : decode cX5_usedOf 22 = .ok (.invokevirtual 132, 3) := by decide +kernel
theorem dX5_usedOf_25 : decode cX5_usedOf 25 = .ok (.ifCond .eq 7, 3) := by decide +kernel
theorem dX5_usedOf_28 : decode cX5_usedOf 28 = .ok (.iconst 1, 1) := by decide +kernel
theorem dX5_usedOf_29 : decode cX5_usedOf 29 = .ok (.goto 4, 3) := by decide +kernel
theorem dX5_usedOf_32 : decode cX5_usedOf 32 = .ok (.iconst 0, 1) := by decide +kernel
theorem dX5_usedOf_33 : decode cX5_usedOf 33 = .ok (.iadd, 1) := by decide +kernel
theorem dX5_usedOf_34 : decode cX5_usedOf 34 = .ok (.istore_n 2, 1) := by decide +kernel
theorem dX5_usedOf_35 : decode cX5_usedOf 35 = .ok (.iinc 3 1, 3) := by decide +kernel
theorem dX5_usedOf_38 : decode cX5_usedOf 38 = .ok (.goto (-29), 3) := by decide +kernel
theorem dX5_usedOf_41 : decode cX5_usedOf 41 = .ok (.iload_n 2, 1) := by decide +kernel
theorem dX5_usedOf_42 : decode cX5_usedOf 42 = .ok (.ireturn, 1) := by decide +kernel
theorem dX5_owed_0 : decode cX5_owed 0 = .ok (.aload_n 0, 1) := by decide +kernel
theorem dX5_owed_1 : decode cX5_owed 1 = .ok (.iconst 0, 1) := by decide +kernel
theorem dX5_owed_2 : decode cX5_owed 2 = .ok (.putfield 66, 3) := by decide +kernel
theorem dX5_owed_5 : decode cX5_owed 5 = .ok (.aload_n 0, 1) := by decide +kernel
theorem dX5_owed_6 : decode cX5_owed 6 = .ok (.iload_n 1, 1) := by decide +kernel
theorem dX5_owed_7 : decode cX5_owed 7 = .ok (.invokevirtual 82, 3) := by decide +kernel
theorem dX5_owed_10 : decode cX5_owed 10 = .ok (.ifCond .eq 12, 3) := by decide +kernel
theorem dX5_owed_13 : decode cX5_owed 13 = .ok (.iload_n 2, 1) := by decide +kernel
theorem dX5_owed_14 : decode cX5_owed 14 = .ok (.iconst 0, 1) := by decide +kernel
theorem dX5_owed_15 : decode cX5_owed 15 = .ok (.iconst 1, 1) := by decide +kernel
theorem dX5_owed_16 : decode cX5_owed 16 = .ok (.invokestatic 69, 3) := by decide +kernel
theorem dX5_owed_19 : decode cX5_owed 19 = .ok (.ifCond .ne 6, 3) := by decide +kernel
theorem dX5_owed_22 : decode cX5_owed 22 = .ok (.ldc 136, 2) := by decide +kernel
theorem dX5_owed_24 : decode cX5_owed 24 = .ok (.ireturn, 1) := by decide +kernel
theorem dX5_owed_25 : decode cX5_owed 25 = .ok (.aload_n 0, 1) := by decide +kernel
theorem dX5_owed_26 : decode cX5_owed 26 = .ok (.iload_n 1, 1) := by decide +kernel
theorem dX5_owed_27 : decode cX5_owed 27 = .ok (.invokevirtual 137, 3) := by decide +kernel
theorem dX5_owed_30 : decode cX5_owed 30 = .ok (.istore_n 3, 1) := by decide +kernel
theorem dX5_owed_31 : decode cX5_owed 31 = .ok (.iload_n 3, 1) := by decide +kernel
theorem dX5_owed_32 : decode cX5_owed 32 = .ok (.aload_n 0, 1) := by decide +kernel
theorem dX5_owed_33 : decode cX5_owed 33 = .ok (.getfield 56, 3) := by decide +kernel
theorem dX5_owed_36 : decode cX5_owed 36 = .ok (.bipush 6, 2) := by decide +kernel
theorem dX5_owed_38 : decode cX5_owed 38 = .ok (.iload_n 1, 1) := by decide +kernel
theorem dX5_owed_39 : decode cX5_owed 39 = .ok (.imul, 1) := by decide +kernel
theorem dX5_owed_40 : decode cX5_owed 40 = .ok (.iaload, 1) := by decide +kernel
theorem dX5_owed_41 : decode cX5_owed 41 = .ok (.isub, 1) := by decide +kernel
theorem dX5_owed_42 : decode cX5_owed 42 = .ok (.istore 4, 2) := by decide +kernel
theorem dX5_owed_44 : decode cX5_owed 44 = .ok (.iload_n 2, 1) := by decide +kernel
theorem dX5_owed_45 : decode cX5_owed 45 = .ok (.ifCond .ne 7, 3) := by decide +kernel
theorem dX5_owed_48 : decode cX5_owed 48 = .ok (.iload_n 3, 1) := by decide +kernel
theorem dX5_owed_49 : decode cX5_owed 49 = .ok (.goto 51, 3) := by decide +kernel
theorem dX5_owed_52 : decode cX5_owed 52 = .ok (.iload 4, 2) := by decide +kernel
theorem dX5_owed_54 : decode cX5_owed 54 = .ok (.ifCond .le 20, 3) := by decide +kernel
theorem dX5_owed_57 : decode cX5_owed 57 = .ok (.iload 4, 2) := by decide +kernel
theorem dX5_owed_59 : decode cX5_owed 59 = .ok (.aload_n 0, 1) := by decide +kernel
theorem dX5_owed_60 : decode cX5_owed 60 = .ok (.getfield 56, 3) := by decide +kernel
theorem dX5_owed_63 : decode cX5_owed 63 = .ok (.bipush 6, 2) := by decide +kernel
theorem dX5_owed_65 : decode cX5_owed 65 = .ok (.iload_n 1, 1) := by decide +kernel
theorem dX5_owed_66 : decode cX5_owed 66 = .ok (.imul, 1) := by decide +kernel
theorem dX5_owed_67 : decode cX5_owed 67 = .ok (.iconst 1, 1) := by decide +kernel
theorem dX5_owed_68 : decode cX5_owed 68 = .ok (.iadd, 1) := by decide +kernel
theorem dX5_owed_69 : decode cX5_owed 69 = .ok (.iaload, 1) := by decide +kernel
theorem dX5_owed_70 : decode cX5_owed 70 = .ok (.imul, 1) := by decide +kernel
theorem dX5_owed_71 : decode cX5_owed 71 = .ok (.goto 29, 3) := by decide +kernel
theorem dX5_owed_74 : decode cX5_owed 74 = .ok (.aload_n 0, 1) := by decide +kernel
theorem dX5_owed_75 : decode cX5_owed 75 = .ok (.iload_n 1, 1) := by decide +kernel
theorem dX5_owed_76 : decode cX5_owed 76 = .ok (.invokevirtual 98, 3) := by decide +kernel
theorem dX5_owed_79 : decode cX5_owed 79 = .ok (.ifCond .eq 20, 3) := by decide +kernel
theorem dX5_owed_82 : decode cX5_owed 82 = .ok (.iload 4, 2) := by decide +kernel
theorem dX5_owed_84 : decode cX5_owed 84 = .ok (.aload_n 0, 1) := by decide +kernel
theorem dX5_owed_85 : decode cX5_owed 85 = .ok (.getfield 56, 3) := by decide +kernel
theorem dX5_owed_88 : decode cX5_owed 88 = .ok (.bipush 6, 2) := by decide +kernel
theorem dX5_owed_90 : decode cX5_owed 90 = .ok (.iload_n 1, 1) := by decide +kernel
theorem dX5_owed_91 : decode cX5_owed 91 = .ok (.imul, 1) := by decide +kernel
theorem dX5_owed_92 : decode cX5_owed 92 = .ok (.iconst 2, 1) := by decide +kernel
theorem dX5_owed_93 : decode cX5_owed 93 = .ok (.iadd, 1) := by decide +kernel
theorem dX5_owed_94 : decode cX5_owed 94 = .ok (.iaload, 1) := by decide +kernel
theorem dX5_owed_95 : decode cX5_owed 95 = .ok (.imul, 1) := by decide +kernel
theorem dX5_owed_96 : decode cX5_owed 96 = .ok (.goto 4, 3) := by decide +kernel
theorem dX5_owed_99 : decode cX5_owed 99 = .ok (.iconst 0, 1) := by decide +kernel
theorem dX5_owed_100 : decode cX5_owed 100 = .ok (.ireturn, 1) := by decide +kernel
theorem dX5_shared_0 : decode cX5_shared 0 = .ok (.aload_n 0, 1) := by decide +kernel
theorem dX5_shared_1 : decode cX5_shared 1 = .ok (.iconst 0, 1) := by decide +kernel
theorem dX5_shared_2 : decode cX5_shared 2 = .ok (.putfield 66, 3) := by decide +kernel
theorem dX5_shared_5 : decode cX5_shared 5 = .ok (.aload_n 0, 1) := by decide +kernel
theorem dX5_shared_6 : decode cX5_shared 6 = .ok (.iload_n 1, 1) := by decide +kernel
theorem dX5_shared_7 : decode cX5_shared 7 = .ok (.invokevirtual 82, 3) := by decide +kernel
theorem dX5_shared_10 : decode cX5_shared 10 = .ok (.ifCond .eq 12, 3) := by decide +kernel
theorem dX5_shared_13 : decode cX5_shared 13 = .ok (.iload_n 2, 1) := by decide +kernel
theorem dX5_shared_14 : decode cX5_shared 14 = .ok (.iconst 0, 1) := by decide +kernel
theorem dX5_shared_15 : decode cX5_shared 15 = .ok (.iconst 2, 1) := by decide +kernel
theorem dX5_shared_16 : decode cX5_shared 16 = .ok (.invokestatic 69, 3) := by decide +kernel
theorem dX5_shared_19 : decode cX5_shared 19 = .ok (.ifCond .ne 5, 3) := by decide +kernel
theorem dX5_shared_22 : decode cX5_shared 22 = .ok (.iconst (-1), 1) := by decide +kernel
theorem dX5_shared_23 : decode cX5_shared 23 = .ok (.ireturn, 1) := by decide +kernel
theorem dX5_shared_24 : decode cX5_shared 24 = .ok (.iconst 0, 1) := by decide +kernel
theorem dX5_shared_25 : decode cX5_shared 25 = .ok (.istore_n 3, 1) := by decide +kernel
theorem dX5_shared_26 : decode cX5_shared 26 = .ok (.iconst 0, 1) := by decide +kernel
theorem dX5_shared_27 : decode cX5_shared 27 = .ok (.istore 4, 2) := by decide +kernel
theorem dX5_shared_29 : decode cX5_shared 29 = .ok (.aload_n 0, 1) := by decide +kernel
theorem dX5_shared_30 : decode cX5_shared 30 = .ok (.getfield 22, 3) := by decide +kernel
theorem dX5_shared_33 : decode cX5_shared 33 = .ok (.iload_n 1, 1) := by decide +kernel
theorem dX5_shared_34 : decode cX5_shared 34 = .ok (.iaload, 1) := by decide +kernel
theorem dX5_shared_35 : decode cX5_shared 35 = .ok (.istore 5, 2) := by decide +kernel
theorem dX5_shared_37 : decode cX5_shared 37 = .ok (.iload 5, 2) := by decide +kernel
theorem dX5_shared_39 : decode cX5_shared 39 = .ok (.aload_n 0, 1) := by decide +kernel
theorem dX5_shared_40 : decode cX5_shared 40 = .ok (.iload_n 1, 1) := by decide +kernel
theorem dX5_shared_41 : decode cX5_shared 41 = .ok (.invokevirtual 129, 3) := by decide +kernel
theorem dX5_shared_44 : decode cX5_shared 44 = .ok (.if_icmp .gt 90, 3) := by decide +kernel
theorem dX5_shared_47 : decode cX5_shared 47 = .ok (.aload_n 0, 1) := by decide +kernel
theorem dX5_shared_48 : decode cX5_shared 48 = .ok (.iload_n 1, 1) := by decide +kernel
theorem dX5_shared_49 : decode cX5_shared 49 = .ok (.iload 5, 2) := by decide +kernel
theorem dX5_shared_51 : decode cX5_shared 51 = .ok (.invokevirtual 132, 3) := by decide +kernel
theorem dX5_shared_54 : decode cX5_shared 54 = .ok (.ifCond .eq 74, 3) := by decide +kernel
theorem dX5_shared_57 : decode cX5_shared 57 = .ok (.iinc 3 1, 3) := by decide +kernel
theorem dX5_shared_60 : decode cX5_shared 60 = .ok (.aload_n 0, 1) := by decide +kernel
theorem dX5_shared_61 : decode cX5_shared 61 = .ok (.getfield 7, 3) := by decide +kernel
theorem dX5_shared_64 : decode cX5_shared 64 = .ok (.iload 5, 2) := by decide +kernel
theorem dX5_shared_66 : decode cX5_shared 66 = .ok (.iaload, 1) := by decide +kernel
theorem dX5_shared_67 : decode cX5_shared 67 = .ok (.bipush 7, 2) := by decide +kernel
theorem dX5_shared_69 : decode cX5_shared 69 = .ok (.if_icmp .le 7, 3) := by decide +kernel
theorem dX5_shared_72 : decode cX5_shared 72 = .ok (.iconst 0, 1) := by decide +kernel
theorem dX5_shared_73 : decode cX5_shared 73 = .ok (.goto 24, 3) := by decide +kernel
theorem dX5_shared_76 : decode cX5_shared 76 = .ok (.aload_n 0, 1) := by decide +kernel
theorem dX5_shared_77 : decode cX5_shared 77 = .ok (.getfield 37, 3) := by decide +kernel
theorem dX5_shared_80 : decode cX5_shared 80 = .ok (.sipush 201, 3) := by decide +kernel
theorem dX5_shared_83 : decode cX5_shared 83 = .ok (.iload_n 1, 1) := by decide +kernel
theorem dX5_shared_84 : decode cX5_shared 84 = .ok (.imul, 1) := by decide +kernel
theorem dX5_shared_85 : decode cX5_shared 85 = .ok (.iload 5, 2) := by decide +kernel
theorem dX5_shared_87 : decode cX5_shared 87 = .ok (.iadd, 1) := by decide +kernel
theorem dX5_shared_88 : decode cX5_shared 88 = .ok (.iaload, 1) := by decide +kernel
theorem dX5_shared_89 : decode cX5_shared 89 = .ok (.ifCond .ne 7, 3) := by decide +kernel
theorem dX5_shared_92 : decode cX5_shared 92 = .ok (.iconst 1, 1) := by decide +kernel
theorem dX5_shared_93 : decode cX5_shared 93 = .ok (.goto 4, 3) := by decide +kernel
theorem dX5_shared_96 : decode cX5_shared 96 = .ok (.iconst 2, 1) := by decide +kernel
theorem dX5_shared_97 : decode cX5_shared 97 = .ok (.istore 6, 2) := by decide +kernel
theorem dX5_shared_99 : decode cX5_shared 99 = .ok (.iload 4, 2) := by decide +kernel
theorem dX5_shared_101 : decode cX5_shared 101 = .ok (.iload_n 3, 1) := by decide +kernel
theorem dX5_shared_102 : decode cX5_shared 102 = .ok (.aload_n 0, 1) := by decide +kernel
theorem dX5_shared_103 : decode cX5_shared 103 = .ok (.getfield 56, 3) := by decide +kernel
theorem dX5_shared_106 : decode cX5_shared 106 = .ok (.bipush 6, 2) := by decide +kernel
theorem dX5_shared_108 : decode cX5_shared 108 = .ok (.iload_n 1, 1) := by decide +kernel
theorem dX5_shared_109 : decode cX5_shared 109 = .ok (.imul, 1) := by decide +kernel
theorem dX5_shared_110 : decode cX5_shared 110 = .ok (.iaload, 1) := by decide +kernel
theorem dX5_shared_111 : decode cX5_shared 111 = .ok (.if_icmp .le 13, 3) := by decide +kernel
theorem dX5_shared_114 : decode cX5_shared 114 = .ok (.iload 6, 2) := by decide +kernel
theorem dX5_shared_116 : decode cX5_shared 116 = .ok (.iload_n 2, 1) := by decide +kernel
theorem dX5_shared_117 : decode cX5_shared 117 = .ok (.if_icmp .ne 7, 3) := by decide +kernel
theorem dX5_shared_120 : decode cX5_shared 120 = .ok (.iconst 1, 1) := by decide +kernel
theorem dX5_shared_121 : decode cX5_shared 121 = .ok (.goto 4, 3) := by decide +kernel
theorem dX5_shared_124 : decode cX5_shared 124 = .ok (.iconst 0, 1) := by decide +kernel
theorem dX5_shared_125 : decode cX5_shared 125 = .ok (.iadd, 1) := by decide +kernel
theorem dX5_shared_126 : decode cX5_shared 126 = .ok (.istore 4, 2) := by decide +kernel
theorem dX5_shared_128 : decode cX5_shared 128 = .ok (.iinc 5 1, 3) := by decide +kernel
theorem dX5_shared_131 : decode cX5_shared 131 = .ok (.goto (-94), 3) := by decide +kernel
theorem dX5_shared_134 : decode cX5_shared 134 = .ok (.iload 4, 2) := by decide +kernel
theorem dX5_shared_136 : decode cX5_shared 136 = .ok (.ireturn, 1) := by decide +kernel
theorem dX5_delay_0 : decode cX5_delay 0 = .ok (.aload_n 0, 1) := by decide +kernel
theorem dX5_delay_1 : decode cX5_delay 1 = .ok (.iconst 0, 1) := by decide +kernel
theorem dX5_delay_2 : decode cX5_delay 2 = .ok (.putfield 66, 3) := by decide +kernel
theorem dX5_delay_5 : decode cX5_delay 5 = .ok (.iload_n 1, 1) := by decide +kernel
theorem dX5_delay_6 : decode cX5_delay 6 = .ok (.iconst 0, 1) := by decide +kernel
theorem dX5_delay_7 : decode cX5_delay 7 = .ok (.bipush 60, 2) := by decide +kernel
theorem dX5_delay_9 : decode cX5_delay 9 = .ok (.invokestatic 69, 3) := by decide +kernel
theorem dX5_delay_12 : decode cX5_delay 12 = .ok (.ifCond .ne 5, 3) := by decide +kernel
theorem dX5_delay_15 : decode cX5_delay 15 = .ok (.iconst (-1), 1) := by decide +kernel
theorem dX5_delay_16 : decode cX5_delay 16 = .ok (.ireturn, 1) := by decide +kernel
theorem dX5_delay_17 : decode cX5_delay 17 = .ok (.aload_n 0, 1) := by decide +kernel
theorem dX5_delay_18 : decode cX5_delay 18 = .ok (.getfield 49, 3) := by decide +kernel
theorem dX5_delay_21 : decode cX5_delay 21 = .ok (.istore_n 2, 1) := by decide +kernel
theorem dX5_delay_22 : decode cX5_delay 22 = .ok (.aload_n 0, 1) := by decide +kernel
theorem dX5_delay_23 : decode cX5_delay 23 = .ok (.iload_n 1, 1) := by decide +kernel
theorem dX5_delay_24 : decode cX5_delay 24 = .ok (.putfield 49, 3) := by decide +kernel
theorem dX5_delay_27 : decode cX5_delay 27 = .ok (.iload_n 2, 1) := by decide +kernel
theorem dX5_delay_28 : decode cX5_delay 28 = .ok (.ireturn, 1) := by decide +kernel
theorem dX5_isHere_0 : decode cX5_isHere 0 = .ok (.iload_n 1, 1) := by decide +kernel
theorem dX5_isHere_1 : decode cX5_isHere 1 = .ok (.aload_n 0, 1) := by decide +kernel
theorem dX5_isHere_2 : decode cX5_isHere 2 = .ok (.getfield 76, 3) := by decide +kernel
theorem dX5_isHere_5 : decode cX5_isHere 5 = .ok (.if_icmp .ge 20, 3) := by decide +kernel
theorem dX5_isHere_8 : decode cX5_isHere 8 = .ok (.aload_n 0, 1) := by decide +kernel
theorem dX5_isHere_9 : decode cX5_isHere 9 = .ok (.getfield 46, 3) := by decide +kernel
theorem dX5_isHere_12 : decode cX5_isHere 12 = .ok (.iload_n 1, 1) := by decide +kernel
theorem dX5_isHere_13 : decode cX5_isHere 13 = .ok (.iaload, 1) := by decide +kernel
theorem dX5_isHere_14 : decode cX5_isHere 14 = .ok (.aload_n 0, 1) := by decide +kernel
theorem dX5_isHere_15 : decode cX5_isHere 15 = .ok (.getfield 76, 3) := by decide +kernel
theorem dX5_isHere_18 : decode cX5_isHere 18 = .ok (.if_icmp .gt 7, 3) := by decide +kernel
theorem dX5_isHere_21 : decode cX5_isHere 21 = .ok (.iconst 1, 1) := by decide +kernel
theorem dX5_isHere_22 : decode cX5_isHere 22 = .ok (.goto 4, 3) := by decide +kernel
theorem dX5_isHere_25 : decode cX5_isHere 25 = .ok (.iconst 0, 1) := by decide +kernel
theorem dX5_isHere_26 : decode cX5_isHere 26 = .ok (.ireturn, 1) := by decide +kernel
theorem dX5_letter_0 : decode cX5_letter 0 = .ok (.aload_n 0, 1) := by decide +kernel
theorem dX5_letter_1 : decode cX5_letter 1 = .ok (.iconst 0, 1) := by decide +kernel
theorem dX5_letter_2 : decode cX5_letter 2 = .ok (.putfield 66, 3) := by decide +kernel
theorem dX5_letter_5 : decode cX5_letter 5 = .ok (.iload_n 1, 1) := by decide +kernel
theorem dX5_letter_6 : decode cX5_letter 6 = .ok (.iconst 0, 1) := by decide +kernel
theorem dX5_letter_7 : decode cX5_letter 7 = .ok (.sipush 200, 3) := by decide +kernel
theorem dX5_letter_10 : decode cX5_letter 10 = .ok (.invokestatic 69, 3) := by decide +kernel
theorem dX5_letter_13 : decode cX5_letter 13 = .ok (.ifCond .eq 12, 3) := by decide +kernel
theorem dX5_letter_16 : decode cX5_letter 16 = .ok (.iload_n 2, 1) := by decide +kernel
theorem dX5_letter_17 : decode cX5_letter 17 = .ok (.iconst 0, 1) := by decide +kernel
theorem dX5_letter_18 : decode cX5_letter 18 = .ok (.iconst 2, 1) := by decide +kernel
theorem dX5_letter_19 : decode cX5_letter 19 = .ok (.invokestatic 69, 3) := by decide +kernel
theorem dX5_letter_22 : decode cX5_letter 22 = .ok (.ifCond .ne 5, 3) := by decide +kernel
theorem dX5_letter_25 : decode cX5_letter 25 = .ok (.iconst (-1), 1) := by decide +kernel
theorem dX5_letter_26 : decode cX5_letter 26 = .ok (.ireturn, 1) := by decide +kernel
theorem dX5_letter_27 : decode cX5_letter 27 = .ok (.aload_n 0, 1) := by decide +kernel
theorem dX5_letter_28 : decode cX5_letter 28 = .ok (.iload_n 1, 1) := by decide +kernel
theorem dX5_letter_29 : decode cX5_letter 29 = .ok (.invokevirtual 140, 3) := by decide +kernel
theorem dX5_letter_32 : decode cX5_letter 32 = .ok (.ifCond .ne 8, 3) := by decide +kernel
theorem dX5_letter_35 : decode cX5_letter 35 = .ok (.bipush (-9), 2) := by decide +kernel
theorem dX5_letter_37 : decode cX5_letter 37 = .ok (.goto 36, 3) := by decide +kernel
theorem dX5_letter_40 : decode cX5_letter 40 = .ok (.iload_n 2, 1) := by decide +kernel
theorem dX5_letter_41 : decode cX5_letter 41 = .ok (.ifCond .ne 12, 3) := by decide +kernel
theorem dX5_letter_44 : decode cX5_letter 44 = .ok (.aload_n 0, 1) := by decide +kernel
theorem dX5_letter_45 : decode cX5_letter 45 = .ok (.getfield 40, 3) := by decide +kernel
theorem dX5_letter_48 : decode cX5_letter 48 = .ok (.iload_n 1, 1) := by decide +kernel
theorem dX5_letter_49 : decode cX5_letter 49 = .ok (.iaload, 1) := by decide +kernel
theorem dX5_letter_50 : decode cX5_letter 50 = .ok (.goto 23, 3) := by decide +kernel
theorem dX5_letter_53 : decode cX5_letter 53 = .ok (.iload_n 2, 1) := by decide +kernel
theorem dX5_letter_54 : decode cX5_letter 54 = .ok (.iconst 1, 1) := by decide +kernel
theorem dX5_letter_55 : decode cX5_letter 55 = .ok (.if_icmp .ne 12, 3) := by decide +kernel
theorem dX5_letter_58 : decode cX5_letter 58 = .ok (.aload_n 0, 1) := by decide +kernel
theorem dX5_letter_59 : decode cX5_letter 59 = .ok (.getfield 43, 3) := by decide +kernel
theorem dX5_letter_62 : decode cX5_letter 62 = .ok (.iload_n 1, 1) := by decide +kernel
theorem dX5_letter_63 : decode cX5_letter 63 = .ok (.iaload, 1) := by decide +kernel
theorem dX5_letter_64 : decode cX5_letter 64 = .ok (.goto 9, 3) := by decide +kernel
theorem dX5_letter_67 : decode cX5_letter 67 = .ok (.aload_n 0, 1) := by decide +kernel
theorem dX5_letter_68 : decode cX5_letter 68 = .ok (.getfield 46, 3) := by decide +kernel
theorem dX5_letter_71 : decode cX5_letter 71 = .ok (.iload_n 1, 1) := by decide +kernel
theorem dX5_letter_72 : decode cX5_letter 72 = .ok (.iaload, 1) := by decide +kernel
theorem dX5_letter_73 : decode cX5_letter 73 = .ok (.ireturn, 1) := by decide +kernel
theorem dX5_foretold_0 : decode cX5_foretold 0 = .ok (.aload_n 0, 1) := by decide +kernel
theorem dX5_foretold_1 : decode cX5_foretold 1 = .ok (.iconst 0, 1) := by decide +kernel
theorem dX5_foretold_2 : decode cX5_foretold 2 = .ok (.putfield 66, 3) := by decide +kernel
theorem dX5_foretold_5 : decode cX5_foretold 5 = .ok (.aload_n 0, 1) := by decide +kernel
theorem dX5_foretold_6 : decode cX5_foretold 6 = .ok (.getfield 76, 3) := by decide +kernel
theorem dX5_foretold_9 : decode cX5_foretold 9 = .ok (.iconst 1, 1) := by decide +kernel
theorem dX5_foretold_10 : decode cX5_foretold 10 = .ok (.isub, 1) := by decide +kernel
theorem dX5_foretold_11 : decode cX5_foretold 11 = .ok (.istore_n 1, 1) := by decide +kernel
theorem dX5_foretold_12 : decode cX5_foretold 12 = .ok (.iload_n 1, 1) := by decide +kernel
theorem dX5_foretold_13 : decode cX5_foretold 13 = .ok (.ifCond .lt 17, 3) := by decide +kernel
theorem dX5_foretold_16 : decode cX5_foretold 16 = .ok (.aload_n 0, 1) := by decide +kernel
theorem dX5_foretold_17 : decode cX5_foretold 17 = .ok (.iload_n 1, 1) := by decide +kernel
theorem dX5_foretold_18 : decode cX5_foretold 18 = .ok (.invokevirtual 140, 3) := by decide +kernel
theorem dX5_foretold_21 : decode cX5_foretold 21 = .ok (.ifCond .ne 9, 3) := by decide +kernel
theorem dX5_foretold_24 : decode cX5_foretold 24 = .ok (.iinc 1 (-1), 3) := by decide +kernel
theorem dX5_foretold_27 : decode cX5_foretold 27 = .ok (.goto (-15), 3) := by decide +kernel
theorem dX5_foretold_30 : decode cX5_foretold 30 = .ok (.iload_n 1, 1) := by decide +kernel
theorem dX5_foretold_31 : decode cX5_foretold 31 = .ok (.ifCond .ge 6, 3) := by decide +kernel
theorem dX5_foretold_34 : decode cX5_foretold 34 = .ok (.bipush (-9), 2) := by decide +kernel
theorem dX5_foretold_36 : decode cX5_foretold 36 = .ok (.ireturn, 1) := by decide +kernel
theorem dX5_foretold_37 : decode cX5_foretold 37 = .ok (.iconst 0, 1) := by decide +kernel
theorem dX5_foretold_38 : decode cX5_foretold 38 = .ok (.istore_n 2, 1) := by decide +kernel
theorem dX5_foretold_39 : decode cX5_foretold 39 = .ok (.iconst 0, 1) := by decide +kernel
theorem dX5_foretold_40 : decode cX5_foretold 40 = .ok (.istore_n 3, 1) := by decide +kernel
theorem dX5_foretold_41 : decode cX5_foretold 41 = .ok (.iload_n 1, 1) := by decide +kernel
theorem dX5_foretold_42 : decode cX5_foretold 42 = .ok (.bipush 6, 2) := by decide +kernel
theorem dX5_foretold_44 : decode cX5_foretold 44 = .ok (.if_icmp .ge 7, 3) := by decide +kernel
theorem dX5_foretold_47 : decode cX5_foretold 47 = .ok (.iconst 0, 1) := by decide +kernel
theorem dX5_foretold_48 : decode cX5_foretold 48 = .ok (.goto 7, 3) := by decide +kernel
theorem dX5_foretold_51 : decode cX5_foretold 51 = .ok (.iload_n 1, 1) := by decide +kernel
theorem dX5_foretold_52 : decode cX5_foretold 52 = .ok (.bipush 6, 2) := by decide +kernel
theorem dX5_foretold_54 : decode cX5_foretold 54 = .ok (.isub, 1) := by decide +kernel
theorem dX5_foretold_55 : decode cX5_foretold 55 = .ok (.istore 4, 2) := by decide +kernel
theorem dX5_foretold_57 : decode cX5_foretold 57 = .ok (.iload 4, 2) := by decide +kernel
theorem dX5_foretold_59 : decode cX5_foretold 59 = .ok (.iload_n 1, 1) := by decide +kernel
theorem dX5_foretold_60 : decode cX5_foretold 60 = .ok (.if_icmp .gt 22, 3) := by decide +kernel
theorem dX5_foretold_63 : decode cX5_foretold 63 = .ok (.iload_n 2, 1) := by decide +kernel
theorem dX5_foretold_64 : decode cX5_foretold 64 = .ok (.aload_n 0, 1) := by decide +kernel
theorem dX5_foretold_65 : decode cX5_foretold 65 = .ok (.getfield 43, 3) := by decide +kernel
theorem dX5_foretold_68 : decode cX5_foretold 68 = .ok (.iload 4, 2) := by decide +kernel
theorem dX5_foretold_70 : decode cX5_foretold 70 = .ok (.iaload, 1) := by decide +kernel
theorem dX5_foretold_71 : decode cX5_foretold 71 = .ok (.iadd, 1) := by decide +kernel
theorem dX5_foretold_72 : decode cX5_foretold 72 = .ok (.istore_n 2, 1) := by decide +kernel
theorem dX5_foretold_73 : decode cX5_foretold 73 = .ok (.iinc 3 1, 3) := by decide +kernel
theorem dX5_foretold_76 : decode cX5_foretold 76 = .ok (.iinc 4 1, 3) := by decide +kernel
theorem dX5_foretold_79 : decode cX5_foretold 79 = .ok (.goto (-22), 3) := by decide +kernel
theorem dX5_foretold_82 : decode cX5_foretold 82 = .ok (.iload_n 2, 1) := by decide +kernel
theorem dX5_foretold_83 : decode cX5_foretold 83 = .ok (.ifCond .ne 8, 3) := by decide +kernel
theorem dX5_foretold_86 : decode cX5_foretold 86 = .ok (.bipush (-9), 2) := by decide +kernel
theorem dX5_foretold_88 : decode cX5_foretold 88 = .ok (.goto 17, 3) := by decide +kernel
theorem dX5_foretold_91 : decode cX5_foretold 91 = .ok (.aload_n 0, 1) := by decide +kernel
theorem dX5_foretold_92 : decode cX5_foretold 92 = .ok (.getfield 40, 3) := by decide +kernel
theorem dX5_foretold_95 : decode cX5_foretold 95 = .ok (.iload_n 1, 1) := by decide +kernel
theorem dX5_foretold_96 : decode cX5_foretold 96 = .ok (.iaload, 1) := by decide +kernel
theorem dX5_foretold_97 : decode cX5_foretold 97 = .ok (.iload_n 3, 1) := by decide +kernel
theorem dX5_foretold_98 : decode cX5_foretold 98 = .ok (.imul, 1) := by decide +kernel
theorem dX5_foretold_99 : decode cX5_foretold 99 = .ok (.iload_n 2, 1) := by decide +kernel
theorem dX5_foretold_100 : decode cX5_foretold 100 = .ok (.iadd, 1) := by decide +kernel
theorem dX5_foretold_101 : decode cX5_foretold 101 = .ok (.iconst 1, 1) := by decide +kernel
theorem dX5_foretold_102 : decode cX5_foretold 102 = .ok (.isub, 1) := by decide +kernel
theorem dX5_foretold_103 : decode cX5_foretold 103 = .ok (.iload_n 2, 1) := by decide +kernel
theorem dX5_foretold_104 : decode cX5_foretold 104 = .ok (.idiv, 1) := by decide +kernel
theorem dX5_foretold_105 : decode cX5_foretold 105 = .ok (.ireturn, 1) := by decide +kernel
theorem dX5_count_0 : decode cX5_count 0 = .ok (.aload_n 0, 1) := by decide +kernel
theorem dX5_count_1 : decode cX5_count 1 = .ok (.iconst 0, 1) := by decide +kernel
theorem dX5_count_2 : decode cX5_count 2 = .ok (.putfield 66, 3) := by decide +kernel
theorem dX5_count_5 : decode cX5_count 5 = .ok (.iconst 0, 1) := by decide +kernel
theorem dX5_count_6 : decode cX5_count 6 = .ok (.istore_n 2, 1) := by decide +kernel
theorem dX5_count_7 : decode cX5_count 7 = .ok (.iconst 0, 1) := by decide +kernel
theorem dX5_count_8 : decode cX5_count 8 = .ok (.istore_n 3, 1) := by decide +kernel
theorem dX5_count_9 : decode cX5_count 9 = .ok (.iconst 0, 1) := by decide +kernel
theorem dX5_count_10 : decode cX5_count 10 = .ok (.istore 4, 2) := by decide +kernel
theorem dX5_count_12 : decode cX5_count 12 = .ok (.iload 4, 2) := by decide +kernel
theorem dX5_count_14 : decode cX5_count 14 = .ok (.aload_n 0, 1) := by decide +kernel
theorem dX5_count_15 : decode cX5_count 15 = .ok (.getfield 79, 3) := by decide +kernel
theorem dX5_count_18 : decode cX5_count 18 = .ok (.if_icmp .ge 53, 3) := by decide +kernel
theorem dX5_count_21 : decode cX5_count 21 = .ok (.iload_n 2, 1) := by decide +kernel
theorem dX5_count_22 : decode cX5_count 22 = .ok (.aload_n 0, 1) := by decide +kernel
theorem dX5_count_23 : decode cX5_count 23 = .ok (.iload 4, 2) := by decide +kernel
theorem dX5_count_25 : decode cX5_count 25 = .ok (.invokevirtual 98, 3) := by decide +kernel
theorem dX5_count_28 : decode cX5_count 28 = .ok (.ifCond .eq 7, 3) := by decide +kernel
theorem dX5_count_31 : decode cX5_count 31 = .ok (.iconst 1, 1) := by decide +kernel
theorem dX5_count_32 : decode cX5_count 32 = .ok (.goto 4, 3) := by decide +kernel
theorem dX5_count_35 : decode cX5_count 35 = .ok (.iconst 0, 1) := by decide +kernel
theorem dX5_count_36 : decode cX5_count 36 = .ok (.iadd, 1) := by decide +kernel
theorem dX5_count_37 : decode cX5_count 37 = .ok (.istore_n 2, 1) := by decide +kernel
theorem dX5_count_38 : decode cX5_count 38 = .ok (.iload_n 3, 1) := by decide +kernel
theorem dX5_count_39 : decode cX5_count 39 = .ok (.aload_n 0, 1) := by decide +kernel
theorem dX5_count_40 : decode cX5_count 40 = .ok (.iload 4, 2) := by decide +kernel
theorem dX5_count_42 : decode cX5_count 42 = .ok (.invokevirtual 98, 3) := by decide +kernel
theorem dX5_count_45 : decode cX5_count 45 = .ok (.ifCond .ne 17, 3) := by decide +kernel
theorem dX5_count_48 : decode cX5_count 48 = .ok (.aload_n 0, 1) := by decide +kernel
theorem dX5_count_49 : decode cX5_count 49 = .ok (.getfield 28, 3) := by decide +kernel
theorem dX5_count_52 : decode cX5_count 52 = .ok (.iload 4, 2) := by decide +kernel
theorem dX5_count_54 : decode cX5_count 54 = .ok (.iaload, 1) := by decide +kernel
theorem dX5_count_55 : decode cX5_count 55 = .ok (.ifCond .ne 7, 3) := by decide +kernel
theorem dX5_count_58 : decode cX5_count 58 = .ok (.iconst 1, 1) := by decide +kernel
theorem dX5_count_59 : decode cX5_count 59 = .ok (.goto 4, 3) := by decide +kernel
theorem dX5_count_62 : decode cX5_count 62 = .ok (.iconst 0, 1) := by decide +kernel
theorem dX5_count_63 : decode cX5_count 63 = .ok (.iadd, 1) := by decide +kernel
theorem dX5_count_64 : decode cX5_count 64 = .ok (.istore_n 3, 1) := by decide +kernel
theorem dX5_count_65 : decode cX5_count 65 = .ok (.iinc 4 1, 3) := by decide +kernel
theorem dX5_count_68 : decode cX5_count 68 = .ok (.goto (-56), 3) := by decide +kernel
theorem dX5_count_71 : decode cX5_count 71 = .ok (.iload_n 1, 1) := by decide +kernel
theorem dX5_count_72 : decode cX5_count 72 = .ok (.tableswitch 73 0 6 #[44, 49, 54, 59, 61, 66, 71], 44) := by decide +kernel
theorem dX5_count_116 : decode cX5_count 116 = .ok (.aload_n 0, 1) := by decide +kernel
theorem dX5_count_117 : decode cX5_count 117 = .ok (.getfield 76, 3) := by decide +kernel
theorem dX5_count_120 : decode cX5_count 120 = .ok (.ireturn, 1) := by decide +kernel
theorem dX5_count_121 : decode cX5_count 121 = .ok (.aload_n 0, 1) := by decide +kernel
theorem dX5_count_122 : decode cX5_count 122 = .ok (.getfield 79, 3) := by decide +kernel
theorem dX5_count_125 : decode cX5_count 125 = .ok (.ireturn, 1) := by decide +kernel
theorem dX5_count_126 : decode cX5_count 126 = .ok (.aload_n 0, 1) := by decide +kernel
theorem dX5_count_127 : decode cX5_count 127 = .ok (.getfield 73, 3) := by decide +kernel
theorem dX5_count_130 : decode cX5_count 130 = .ok (.ireturn, 1) := by decide +kernel
theorem dX5_count_131 : decode cX5_count 131 = .ok (.iload_n 2, 1) := by decide +kernel
theorem dX5_count_132 : decode cX5_count 132 = .ok (.ireturn, 1) := by decide +kernel
theorem dX5_count_133 : decode cX5_count 133 = .ok (.aload_n 0, 1) := by decide +kernel
theorem dX5_count_134 : decode cX5_count 134 = .ok (.getfield 105, 3) := by decide +kernel
theorem dX5_count_137 : decode cX5_count 137 = .ok (.ireturn, 1) := by decide +kernel
theorem dX5_count_138 : decode cX5_count 138 = .ok (.aload_n 0, 1) := by decide +kernel
theorem dX5_count_139 : decode cX5_count 139 = .ok (.getfield 117, 3) := by decide +kernel
theorem dX5_count_142 : decode cX5_count 142 = .ok (.ireturn, 1) := by decide +kernel
theorem dX5_count_143 : decode cX5_count 143 = .ok (.iload_n 3, 1) := by decide +kernel
theorem dX5_count_144 : decode cX5_count 144 = .ok (.ireturn, 1) := by decide +kernel
theorem dX5_count_145 : decode cX5_count 145 = .ok (.iconst (-1), 1) := by decide +kernel
theorem dX5_count_146 : decode cX5_count 146 = .ok (.ireturn, 1) := by decide +kernel
theorem dX5_trace_0 : decode cX5_trace 0 = .ok (.aload_n 0, 1) := by decide +kernel
theorem dX5_trace_1 : decode cX5_trace 1 = .ok (.iconst 0, 1) := by decide +kernel
theorem dX5_trace_2 : decode cX5_trace 2 = .ok (.putfield 66, 3) := by decide +kernel
theorem dX5_trace_5 : decode cX5_trace 5 = .ok (.aload_n 0, 1) := by decide +kernel
theorem dX5_trace_6 : decode cX5_trace 6 = .ok (.getfield 86, 3) := by decide +kernel
theorem dX5_trace_9 : decode cX5_trace 9 = .ok (.lreturn, 1) := by decide +kernel
end
section
theorem dL_law_0 : decode cL_law 0 = .ok (.new 7, 3) := by decide +kernel
theorem dL_law_3 : decode cL_law 3 = .ok (.dup, 1) := by decide +kernel
theorem dL_law_4 : decode cL_law 4 = .ok (.invokespecial 9, 3) := by decide +kernel
theorem dL_law_7 : decode cL_law 7 = .ok (.astore_n 1, 1) := by decide +kernel
theorem dL_law_8 : decode cL_law 8 = .ok (.new 10, 3) := by decide +kernel
theorem dL_law_11 : decode cL_law 11 = .ok (.dup, 1) := by decide +kernel
theorem dL_law_12 : decode cL_law 12 = .ok (.invokespecial 12, 3) := by decide +kernel
theorem dL_law_15 : decode cL_law 15 = .ok (.astore_n 2, 1) := by decide +kernel
theorem dL_law_16 : decode cL_law 16 = .ok (.iconst 0, 1) := by decide +kernel
theorem dL_law_17 : decode cL_law 17 = .ok (.istore_n 3, 1) := by decide +kernel
theorem dL_law_18 : decode cL_law 18 = .ok (.iload_n 3, 1) := by decide +kernel
theorem dL_law_19 : decode cL_law 19 = .ok (.aload_n 0, 1) := by decide +kernel
theorem dL_law_20 : decode cL_law 20 = .ok (.arraylength, 1) := by decide +kernel
theorem dL_law_21 : decode cL_law 21 = .ok (.iconst 4, 1) := by decide +kernel
theorem dL_law_22 : decode cL_law 22 = .ok (.isub, 1) := by decide +kernel
theorem dL_law_23 : decode cL_law 23 = .ok (.if_icmp .gt 766, 3) := by decide +kernel
theorem dL_law_26 : decode cL_law 26 = .ok (.aload_n 0, 1) := by decide +kernel
theorem dL_law_27 : decode cL_law 27 = .ok (.iload_n 3, 1) := by decide +kernel
theorem dL_law_28 : decode cL_law 28 = .ok (.iaload, 1) := by decide +kernel
theorem dL_law_29 : decode cL_law 29 = .ok (.bipush 31, 2) := by decide +kernel
theorem dL_law_31 : decode cL_law 31 = .ok (.iand, 1) := by decide +kernel
theorem dL_law_32 : decode cL_law 32 = .ok (.tableswitch 751 0 21 #[104, 137, 160, 193, 236, 259, 282, 315, 348, 381, 414, 447, 510, 523, 546, 579, 612, 645, 668, 701, 714, 737], 104) := by decide +kernel
theorem dL_law_136 : decode cL_law 136 = .ok (.aload_n 1, 1) := by decide +kernel
theorem dL_law_137 : decode cL_law 137 = .ok (.aload_n 0, 1) := by decide +kernel
theorem dL_law_138 : decode cL_law 138 = .ok (.iload_n 3, 1) := by decide +kernel
theorem dL_law_139 : decode cL_law 139 = .ok (.iconst 1, 1) := by decide +kernel
theorem dL_law_140 : decode cL_law 140 = .ok (.iadd, 1) := by decide +kernel
theorem dL_law_141 : decode cL_law 141 = .ok (.iaload, 1) := by decide +kernel
theorem dL_law_142 : decode cL_law 142 = .ok (.aload_n 0, 1) := by decide +kernel
theorem dL_law_143 : decode cL_law 143 = .ok (.iload_n 3, 1) := by decide +kernel
theorem dL_law_144 : decode cL_law 144 = .ok (.iconst 2, 1) := by decide +kernel
theorem dL_law_145 : decode cL_law 145 = .ok (.iadd, 1) := by decide +kernel
theorem dL_law_146 : decode cL_law 146 = .ok (.iaload, 1) := by decide +kernel
theorem dL_law_147 : decode cL_law 147 = .ok (.invokevirtual 13, 3) := by decide +kernel
theorem dL_law_150 : decode cL_law 150 = .ok (.aload_n 2, 1) := by decide +kernel
theorem dL_law_151 : decode cL_law 151 = .ok (.aload_n 0, 1) := by decide +kernel
theorem dL_law_152 : decode cL_law 152 = .ok (.iload_n 3, 1) := by decide +kernel
theorem dL_law_153 : decode cL_law 153 = .ok (.iconst 1, 1) := by decide +kernel
theorem dL_law_154 : decode cL_law 154 = .ok (.iadd, 1) := by decide +kernel
theorem dL_law_155 : decode cL_law 155 = .ok (.iaload, 1) := by decide +kernel
theorem dL_law_156 : decode cL_law 156 = .ok (.aload_n 0, 1) := by decide +kernel
theorem dL_law_157 : decode cL_law 157 = .ok (.iload_n 3, 1) := by decide +kernel
theorem dL_law_158 : decode cL_law 158 = .ok (.iconst 2, 1) := by decide +kernel
theorem dL_law_159 : decode cL_law 159 = .ok (.iadd, 1) := by decide +kernel
theorem dL_law_160 : decode cL_law 160 = .ok (.iaload, 1) := by decide +kernel
theorem dL_law_161 : decode cL_law 161 = .ok (.invokevirtual 17, 3) := by decide +kernel
theorem dL_law_164 : decode cL_law 164 = .ok (.if_icmp .eq 619, 3) := by decide +kernel
theorem dL_law_167 : decode cL_law 167 = .ok (.iconst 0, 1) := by decide +kernel
theorem dL_law_168 : decode cL_law 168 = .ok (.ireturn, 1) := by decide +kernel
theorem dL_law_169 : decode cL_law 169 = .ok (.aload_n 1, 1) := by decide +kernel
theorem dL_law_170 : decode cL_law 170 = .ok (.aload_n 0, 1) := by decide +kernel
theorem dL_law_171 : decode cL_law 171 = .ok (.iload_n 3, 1) := by decide +kernel
theorem dL_law_172 : decode cL_law 172 = .ok (.iconst 1, 1) := by decide +kernel
theorem dL_law_173 : decode cL_law 173 = .ok (.iadd, 1) := by decide +kernel
theorem dL_law_174 : decode cL_law 174 = .ok (.iaload, 1) := by decide +kernel
theorem dL_law_175 : decode cL_law 175 = .ok (.invokevirtual 18, 3) := by decide +kernel
theorem dL_law_178 : decode cL_law 178 = .ok (.aload_n 2, 1) := by decide +kernel
theorem dL_law_179 : decode cL_law 179 = .ok (.aload_n 0, 1) := by decide +kernel
theorem dL_law_180 : decode cL_law 180 = .ok (.iload_n 3, 1) := by decide +kernel
theorem dL_law_181 : decode cL_law 181 = .ok (.iconst 1, 1) := by decide +kernel
theorem dL_law_182 : decode cL_law 182 = .ok (.iadd, 1) := by decide +kernel
theorem dL_law_183 : decode cL_law 183 = .ok (.iaload, 1) := by decide +kernel
theorem dL_law_184 : decode cL_law 184 = .ok (.invokevirtual 22, 3) := by decide +kernel
theorem dL_law_187 : decode cL_law 187 = .ok (.if_icmp .eq 596, 3) := by decide +kernel
theorem dL_law_190 : decode cL_law 190 = .ok (.iconst 0, 1) := by decide +kernel
theorem dL_law_191 : decode cL_law 191 = .ok (.ireturn, 1) := by decide +kernel
theorem dL_law_192 : decode cL_law 192 = .ok (.aload_n 1, 1) := by decide +kernel
theorem dL_law_193 : decode cL_law 193 = .ok (.aload_n 0, 1) := by decide +kernel
theorem dL_law_194 : decode cL_law 194 = .ok (.iload_n 3, 1) := by decide +kernel
theorem dL_law_195 : decode cL_law 195 = .ok (.iconst 1, 1) := by decide +kernel
theorem dL_law_196 : decode cL_law 196 = .ok (.iadd, 1) := by decide +kernel
theorem dL_law_197 : decode cL_law 197 = .ok (.iaload, 1) := by decide +kernel
theorem dL_law_198 : decode cL_law 198 = .ok (.aload_n 0, 1) := by decide +kernel
theorem dL_law_199 : decode cL_law 199 = .ok (.iload_n 3, 1) := by decide +kernel
theorem dL_law_200 : decode cL_law 200 = .ok (.iconst 2, 1) := by decide +kernel
theorem dL_law_201 : decode cL_law 201 = .ok (.iadd, 1) := by decide +kernel
theorem dL_law_202 : decode cL_law 202 = .ok (.iaload, 1) := by decide +kernel
theorem dL_law_203 : decode cL_law 203 = .ok (.invokevirtual 23, 3) := by decide +kernel
theorem dL_law_206 : decode cL_law 206 = .ok (.aload_n 2, 1) := by decide +kernel
theorem dL_law_207 : decode cL_law 207 = .ok (.aload_n 0, 1) := by decide +kernel
theorem dL_law_208 : decode cL_law 208 = .ok (.iload_n 3, 1) := by decide +kernel
theorem dL_law_209 : decode cL_law 209 = .ok (.iconst 1, 1) := by decide +kernel
theorem dL_law_210 : decode cL_law 210 = .ok (.iadd, 1) := by decide +kernel
theorem dL_law_211 : decode cL_law 211 = .ok (.iaload, 1) := by decide +kernel
theorem dL_law_212 : decode cL_law 212 = .ok (.aload_n 0, 1) := by decide +kernel
theorem dL_law_213 : decode cL_law 213 = .ok (.iload_n 3, 1) := by decide +kernel
theorem dL_law_214 : decode cL_law 214 = .ok (.iconst 2, 1) := by decide +kernel
theorem dL_law_215 : decode cL_law 215 = .ok (.iadd, 1) := by decide +kernel
theorem dL_law_216 : decode cL_law 216 = .ok (.iaload, 1) := by decide +kernel
theorem dL_law_217 : decode cL_law 217 = .ok (.invokevirtual 26, 3) := by decide +kernel
theorem dL_law_220 : decode cL_law 220 = .ok (.if_icmp .eq 563, 3) := by decide +kernel
theorem dL_law_223 : decode cL_law 223 = .ok (.iconst 0, 1) := by decide +kernel
theorem dL_law_224 : decode cL_law 224 = .ok (.ireturn, 1) := by decide +kernel
theorem dL_law_225 : decode cL_law 225 = .ok (.aload_n 1, 1) := by decide +kernel
theorem dL_law_226 : decode cL_law 226 = .ok (.aload_n 0, 1) := by decide +kernel
theorem dL_law_227 : decode cL_law 227 = .ok (.iload_n 3, 1) := by decide +kernel
theorem dL_law_228 : decode cL_law 228 = .ok (.iconst 1, 1) := by decide +kernel
theorem dL_law_229 : decode cL_law 229 = .ok (.iadd, 1) := by decide +kernel
theorem dL_law_230 : decode cL_law 230 = .ok (.iaload, 1) := by decide +kernel
theorem dL_law_231 : decode cL_law 231 = .ok (.aload_n 0, 1) := by decide +kernel
theorem dL_law_232 : decode cL_law 232 = .ok (.iload_n 3, 1) := by decide +kernel
theorem dL_law_233 : decode cL_law 233 = .ok (.iconst 2, 1) := by decide +kernel
theorem dL_law_234 : decode cL_law 234 = .ok (.iadd, 1) := by decide +kernel
theorem dL_law_235 : decode cL_law 235 = .ok (.iaload, 1) := by decide +kernel
theorem dL_law_236 : decode cL_law 236 = .ok (.aload_n 0, 1) := by decide +kernel
theorem dL_law_237 : decode cL_law 237 = .ok (.iload_n 3, 1) := by decide +kernel
theorem dL_law_238 : decode cL_law 238 = .ok (.iconst 3, 1) := by decide +kernel
theorem dL_law_239 : decode cL_law 239 = .ok (.iadd, 1) := by decide +kernel
theorem dL_law_240 : decode cL_law 240 = .ok (.iaload, 1) := by decide +kernel
theorem dL_law_241 : decode cL_law 241 = .ok (.invokevirtual 27, 3) := by decide +kernel
theorem dL_law_244 : decode cL_law 244 = .ok (.aload_n 2, 1) := by decide +kernel
theorem dL_law_245 : decode cL_law 245 = .ok (.aload_n 0, 1) := by decide +kernel
theorem dL_law_246 : decode cL_law 246 = .ok (.iload_n 3, 1) := by decide +kernel
theorem dL_law_247 : decode cL_law 247 = .ok (.iconst 1, 1) := by decide +kernel
theorem dL_law_248 : decode cL_law 248 = .ok (.iadd, 1) := by decide +kernel
theorem dL_law_249 : decode cL_law 249 = .ok (.iaload, 1) := by decide +kernel
theorem dL_law_250 : decode cL_law 250 = .ok (.aload_n 0, 1) := by decide +kernel
theorem dL_law_251 : decode cL_law 251 = .ok (.iload_n 3, 1) := by decide +kernel
theorem dL_law_252 : decode cL_law 252 = .ok (.iconst 2, 1) := by decide +kernel
theorem dL_law_253 : decode cL_law 253 = .ok (.iadd, 1) := by decide +kernel
theorem dL_law_254 : decode cL_law 254 = .ok (.iaload, 1) := by decide +kernel
theorem dL_law_255 : decode cL_law 255 = .ok (.aload_n 0, 1) := by decide +kernel
theorem dL_law_256 : decode cL_law 256 = .ok (.iload_n 3, 1) := by decide +kernel
theorem dL_law_257 : decode cL_law 257 = .ok (.iconst 3, 1) := by decide +kernel
theorem dL_law_258 : decode cL_law 258 = .ok (.iadd, 1) := by decide +kernel
theorem dL_law_259 : decode cL_law 259 = .ok (.iaload, 1) := by decide +kernel
theorem dL_law_260 : decode cL_law 260 = .ok (.invokevirtual 31, 3) := by decide +kernel
theorem dL_law_263 : decode cL_law 263 = .ok (.if_icmp .eq 520, 3) := by decide +kernel
theorem dL_law_266 : decode cL_law 266 = .ok (.iconst 0, 1) := by decide +kernel
theorem dL_law_267 : decode cL_law 267 = .ok (.ireturn, 1) := by decide +kernel
theorem dL_law_268 : decode cL_law 268 = .ok (.aload_n 1, 1) := by decide +kernel
theorem dL_law_269 : decode cL_law 269 = .ok (.aload_n 0, 1) := by decide +kernel
theorem dL_law_270 : decode cL_law 270 = .ok (.iload_n 3, 1) := by decide +kernel
theorem dL_law_271 : decode cL_law 271 = .ok (.iconst 1, 1) := by decide +kernel
theorem dL_law_272 : decode cL_law 272 = .ok (.iadd, 1) := by decide +kernel
theorem dL_law_273 : decode cL_law 273 = .ok (.iaload, 1) := by decide +kernel
theorem dL_law_274 : decode cL_law 274 = .ok (.invokevirtual 32, 3) := by decide +kernel
theorem dL_law_277 : decode cL_law 277 = .ok (.aload_n 2, 1) := by decide +kernel
theorem dL_law_278 : decode cL_law 278 = .ok (.aload_n 0, 1) := by decide +kernel
theorem dL_law_279 : decode cL_law 279 = .ok (.iload_n 3, 1) := by decide +kernel
theorem dL_law_280 : decode cL_law 280 = .ok (.iconst 1, 1) := by decide +kernel
theorem dL_law_281 : decode cL_law 281 = .ok (.iadd, 1) := by decide +kernel
theorem dL_law_282 : decode cL_law 282 = .ok (.iaload, 1) := by decide +kernel
theorem dL_law_283 : decode cL_law 283 = .ok (.invokevirtual 35, 3) := by decide +kernel
theorem dL_law_286 : decode cL_law 286 = .ok (.if_icmp .eq 497, 3) := by decide +kernel
theorem dL_law_289 : decode cL_law 289 = .ok (.iconst 0, 1) := by decide +kernel
theorem dL_law_290 : decode cL_law 290 = .ok (.ireturn, 1) := by decide +kernel
theorem dL_law_291 : decode cL_law 291 = .ok (.aload_n 1, 1) := by decide +kernel
theorem dL_law_292 : decode cL_law 292 = .ok (.aload_n 0, 1) := by decide +kernel
theorem dL_law_293 : decode cL_law 293 = .ok (.iload_n 3, 1) := by decide +kernel
theorem dL_law_294 : decode cL_law 294 = .ok (.iconst 1, 1) := by decide +kernel
theorem dL_law_295 : decode cL_law 295 = .ok (.iadd, 1) := by decide +kernel
theorem dL_law_296 : decode cL_law 296 = .ok (.iaload, 1) := by decide +kernel
theorem dL_law_297 : decode cL_law 297 = .ok (.invokevirtual 36, 3) := by decide +kernel
theorem dL_law_300 : decode cL_law 300 = .ok (.aload_n 2, 1) := by decide +kernel
theorem dL_law_301 : decode cL_law 301 = .ok (.aload_n 0, 1) := by decide +kernel
theorem dL_law_302 : decode cL_law 302 = .ok (.iload_n 3, 1) := by decide +kernel
theorem dL_law_303 : decode cL_law 303 = .ok (.iconst 1, 1) := by decide +kernel
theorem dL_law_304 : decode cL_law 304 = .ok (.iadd, 1) := by decide +kernel
theorem dL_law_305 : decode cL_law 305 = .ok (.iaload, 1) := by decide +kernel
theorem dL_law_306 : decode cL_law 306 = .ok (.invokevirtual 39, 3) := by decide +kernel
theorem dL_law_309 : decode cL_law 309 = .ok (.if_icmp .eq 474, 3) := by decide +kernel
theorem dL_law_312 : decode cL_law 312 = .ok (.iconst 0, 1) := by decide +kernel
theorem dL_law_313 : decode cL_law 313 = .ok (.ireturn, 1) := by decide +kernel
theorem dL_law_314 : decode cL_law 314 = .ok (.aload_n 1, 1) := by decide +kernel
theorem dL_law_315 : decode cL_law 315 = .ok (.aload_n 0, 1) := by decide +kernel
theorem dL_law_316 : decode cL_law 316 = .ok (.iload_n 3, 1) := by decide +kernel
theorem dL_law_317 : decode cL_law 317 = .ok (.iconst 1, 1) := by decide +kernel
theorem dL_law_318 : decode cL_law 318 = .ok (.iadd, 1) := by decide +kernel
theorem dL_law_319 : decode cL_law 319 = .ok (.iaload, 1) := by decide +kernel
theorem dL_law_320 : decode cL_law 320 = .ok (.aload_n 0, 1) := by decide +kernel
theorem dL_law_321 : decode cL_law 321 = .ok (.iload_n 3, 1) := by decide +kernel
theorem dL_law_322 : decode cL_law 322 = .ok (.iconst 2, 1) := by decide +kernel
theorem dL_law_323 : decode cL_law 323 = .ok (.iadd, 1) := by decide +kernel
theorem dL_law_324 : decode cL_law 324 = .ok (.iaload, 1) := by decide +kernel
theorem dL_law_325 : decode cL_law 325 = .ok (.invokevirtual 40, 3) := by decide +kernel
theorem dL_law_328 : decode cL_law 328 = .ok (.aload_n 2, 1) := by decide +kernel
theorem dL_law_329 : decode cL_law 329 = .ok (.aload_n 0, 1) := by decide +kernel
theorem dL_law_330 : decode cL_law 330 = .ok (.iload_n 3, 1) := by decide +kernel
theorem dL_law_331 : decode cL_law 331 = .ok (.iconst 1, 1) := by decide +kernel
theorem dL_law_332 : decode cL_law 332 = .ok (.iadd, 1) := by decide +kernel
theorem dL_law_333 : decode cL_law 333 = .ok (.iaload, 1) := by decide +kernel
theorem dL_law_334 : decode cL_law 334 = .ok (.aload_n 0, 1) := by decide +kernel
theorem dL_law_335 : decode cL_law 335 = .ok (.iload_n 3, 1) := by decide +kernel
theorem dL_law_336 : decode cL_law 336 = .ok (.iconst 2, 1) := by decide +kernel
theorem dL_law_337 : decode cL_law 337 = .ok (.iadd, 1) := by decide +kernel
theorem dL_law_338 : decode cL_law 338 = .ok (.iaload, 1) := by decide +kernel
theorem dL_law_339 : decode cL_law 339 = .ok (.invokevirtual 43, 3) := by decide +kernel
theorem dL_law_342 : decode cL_law 342 = .ok (.if_icmp .eq 441, 3) := by decide +kernel
theorem dL_law_345 : decode cL_law 345 = .ok (.iconst 0, 1) := by decide +kernel
theorem dL_law_346 : decode cL_law 346 = .ok (.ireturn, 1) := by decide +kernel
theorem dL_law_347 : decode cL_law 347 = .ok (.aload_n 1, 1) := by decide +kernel
theorem dL_law_348 : decode cL_law 348 = .ok (.aload_n 0, 1) := by decide +kernel
theorem dL_law_349 : decode cL_law 349 = .ok (.iload_n 3, 1) := by decide +kernel
theorem dL_law_350 : decode cL_law 350 = .ok (.iconst 1, 1) := by decide +kernel
theorem dL_law_351 : decode cL_law 351 = .ok (.iadd, 1) := by decide +kernel
theorem dL_law_352 : decode cL_law 352 = .ok (.iaload, 1) := by decide +kernel
theorem dL_law_353 : decode cL_law 353 = .ok (.aload_n 0, 1) := by decide +kernel
theorem dL_law_354 : decode cL_law 354 = .ok (.iload_n 3, 1) := by decide +kernel
theorem dL_law_355 : decode cL_law 355 = .ok (.iconst 2, 1) := by decide +kernel
theorem dL_law_356 : decode cL_law 356 = .ok (.iadd, 1) := by decide +kernel
theorem dL_law_357 : decode cL_law 357 = .ok (.iaload, 1) := by decide +kernel
theorem dL_law_358 : decode cL_law 358 = .ok (.invokevirtual 44, 3) := by decide +kernel
theorem dL_law_361 : decode cL_law 361 = .ok (.aload_n 2, 1) := by decide +kernel
theorem dL_law_362 : decode cL_law 362 = .ok (.aload_n 0, 1) := by decide +kernel
theorem dL_law_363 : decode cL_law 363 = .ok (.iload_n 3, 1) := by decide +kernel
theorem dL_law_364 : decode cL_law 364 = .ok (.iconst 1, 1) := by decide +kernel
theorem dL_law_365 : decode cL_law 365 = .ok (.iadd, 1) := by decide +kernel
theorem dL_law_366 : decode cL_law 366 = .ok (.iaload, 1) := by decide +kernel
theorem dL_law_367 : decode cL_law 367 = .ok (.aload_n 0, 1) := by decide +kernel
theorem dL_law_368 : decode cL_law 368 = .ok (.iload_n 3, 1) := by decide +kernel
theorem dL_law_369 : decode cL_law 369 = .ok (.iconst 2, 1) := by decide +kernel
theorem dL_law_370 : decode cL_law 370 = .ok (.iadd, 1) := by decide +kernel
theorem dL_law_371 : decode cL_law 371 = .ok (.iaload, 1) := by decide +kernel
theorem dL_law_372 : decode cL_law 372 = .ok (.invokevirtual 47, 3) := by decide +kernel
theorem dL_law_375 : decode cL_law 375 = .ok (.if_icmp .eq 408, 3) := by decide +kernel
theorem dL_law_378 : decode cL_law 378 = .ok (.iconst 0, 1) := by decide +kernel
theorem dL_law_379 : decode cL_law 379 = .ok (.ireturn, 1) := by decide +kernel
theorem dL_law_380 : decode cL_law 380 = .ok (.aload_n 1, 1) := by decide +kernel
theorem dL_law_381 : decode cL_law 381 = .ok (.aload_n 0, 1) := by decide +kernel
theorem dL_law_382 : decode cL_law 382 = .ok (.iload_n 3, 1) := by decide +kernel
theorem dL_law_383 : decode cL_law 383 = .ok (.iconst 1, 1) := by decide +kernel
theorem dL_law_384 : decode cL_law 384 = .ok (.iadd, 1) := by decide +kernel
theorem dL_law_385 : decode cL_law 385 = .ok (.iaload, 1) := by decide +kernel
theorem dL_law_386 : decode cL_law 386 = .ok (.aload_n 0, 1) := by decide +kernel
theorem dL_law_387 : decode cL_law 387 = .ok (.iload_n 3, 1) := by decide +kernel
theorem dL_law_388 : decode cL_law 388 = .ok (.iconst 2, 1) := by decide +kernel
theorem dL_law_389 : decode cL_law 389 = .ok (.iadd, 1) := by decide +kernel
theorem dL_law_390 : decode cL_law 390 = .ok (.iaload, 1) := by decide +kernel
theorem dL_law_391 : decode cL_law 391 = .ok (.invokevirtual 48, 3) := by decide +kernel
theorem dL_law_394 : decode cL_law 394 = .ok (.aload_n 2, 1) := by decide +kernel
theorem dL_law_395 : decode cL_law 395 = .ok (.aload_n 0, 1) := by decide +kernel
theorem dL_law_396 : decode cL_law 396 = .ok (.iload_n 3, 1) := by decide +kernel
theorem dL_law_397 : decode cL_law 397 = .ok (.iconst 1, 1) := by decide +kernel
theorem dL_law_398 : decode cL_law 398 = .ok (.iadd, 1) := by decide +kernel
theorem dL_law_399 : decode cL_law 399 = .ok (.iaload, 1) := by decide +kernel
theorem dL_law_400 : decode cL_law 400 = .ok (.aload_n 0, 1) := by decide +kernel
theorem dL_law_401 : decode cL_law 401 = .ok (.iload_n 3, 1) := by decide +kernel
theorem dL_law_402 : decode cL_law 402 = .ok (.iconst 2, 1) := by decide +kernel
theorem dL_law_403 : decode cL_law 403 = .ok (.iadd, 1) := by decide +kernel
theorem dL_law_404 : decode cL_law 404 = .ok (.iaload, 1) := by decide +kernel
theorem dL_law_405 : decode cL_law 405 = .ok (.invokevirtual 51, 3) := by decide +kernel
theorem dL_law_408 : decode cL_law 408 = .ok (.if_icmp .eq 375, 3) := by decide +kernel
theorem dL_law_411 : decode cL_law 411 = .ok (.iconst 0, 1) := by decide +kernel
theorem dL_law_412 : decode cL_law 412 = .ok (.ireturn, 1) := by decide +kernel
theorem dL_law_413 : decode cL_law 413 = .ok (.aload_n 1, 1) := by decide +kernel
theorem dL_law_414 : decode cL_law 414 = .ok (.aload_n 0, 1) := by decide +kernel
theorem dL_law_415 : decode cL_law 415 = .ok (.iload_n 3, 1) := by decide +kernel
theorem dL_law_416 : decode cL_law 416 = .ok (.iconst 1, 1) := by decide +kernel
theorem dL_law_417 : decode cL_law 417 = .ok (.iadd, 1) := by decide +kernel
theorem dL_law_418 : decode cL_law 418 = .ok (.iaload, 1) := by decide +kernel
theorem dL_law_419 : decode cL_law 419 = .ok (.aload_n 0, 1) := by decide +kernel
theorem dL_law_420 : decode cL_law 420 = .ok (.iload_n 3, 1) := by decide +kernel
theorem dL_law_421 : decode cL_law 421 = .ok (.iconst 2, 1) := by decide +kernel
theorem dL_law_422 : decode cL_law 422 = .ok (.iadd, 1) := by decide +kernel
theorem dL_law_423 : decode cL_law 423 = .ok (.iaload, 1) := by decide +kernel
theorem dL_law_424 : decode cL_law 424 = .ok (.invokevirtual 52, 3) := by decide +kernel
theorem dL_law_427 : decode cL_law 427 = .ok (.aload_n 2, 1) := by decide +kernel
theorem dL_law_428 : decode cL_law 428 = .ok (.aload_n 0, 1) := by decide +kernel
theorem dL_law_429 : decode cL_law 429 = .ok (.iload_n 3, 1) := by decide +kernel
theorem dL_law_430 : decode cL_law 430 = .ok (.iconst 1, 1) := by decide +kernel
theorem dL_law_431 : decode cL_law 431 = .ok (.iadd, 1) := by decide +kernel
theorem dL_law_432 : decode cL_law 432 = .ok (.iaload, 1) := by decide +kernel
theorem dL_law_433 : decode cL_law 433 = .ok (.aload_n 0, 1) := by decide +kernel
theorem dL_law_434 : decode cL_law 434 = .ok (.iload_n 3, 1) := by decide +kernel
theorem dL_law_435 : decode cL_law 435 = .ok (.iconst 2, 1) := by decide +kernel
theorem dL_law_436 : decode cL_law 436 = .ok (.iadd, 1) := by decide +kernel
theorem dL_law_437 : decode cL_law 437 = .ok (.iaload, 1) := by decide +kernel
theorem dL_law_438 : decode cL_law 438 = .ok (.invokevirtual 55, 3) := by decide +kernel
theorem dL_law_441 : decode cL_law 441 = .ok (.if_icmp .eq 342, 3) := by decide +kernel
theorem dL_law_444 : decode cL_law 444 = .ok (.iconst 0, 1) := by decide +kernel
theorem dL_law_445 : decode cL_law 445 = .ok (.ireturn, 1) := by decide +kernel
theorem dL_law_446 : decode cL_law 446 = .ok (.aload_n 1, 1) := by decide +kernel
theorem dL_law_447 : decode cL_law 447 = .ok (.aload_n 0, 1) := by decide +kernel
theorem dL_law_448 : decode cL_law 448 = .ok (.iload_n 3, 1) := by decide +kernel
theorem dL_law_449 : decode cL_law 449 = .ok (.iconst 1, 1) := by decide +kernel
theorem dL_law_450 : decode cL_law 450 = .ok (.iadd, 1) := by decide +kernel
theorem dL_law_451 : decode cL_law 451 = .ok (.iaload, 1) := by decide +kernel
theorem dL_law_452 : decode cL_law 452 = .ok (.aload_n 0, 1) := by decide +kernel
theorem dL_law_453 : decode cL_law 453 = .ok (.iload_n 3, 1) := by decide +kernel
theorem dL_law_454 : decode cL_law 454 = .ok (.iconst 2, 1) := by decide +kernel
theorem dL_law_455 : decode cL_law 455 = .ok (.iadd, 1) := by decide +kernel
theorem dL_law_456 : decode cL_law 456 = .ok (.iaload, 1) := by decide +kernel
theorem dL_law_457 : decode cL_law 457 = .ok (.invokevirtual 56, 3) := by decide +kernel
theorem dL_law_460 : decode cL_law 460 = .ok (.aload_n 2, 1) := by decide +kernel
theorem dL_law_461 : decode cL_law 461 = .ok (.aload_n 0, 1) := by decide +kernel
theorem dL_law_462 : decode cL_law 462 = .ok (.iload_n 3, 1) := by decide +kernel
theorem dL_law_463 : decode cL_law 463 = .ok (.iconst 1, 1) := by decide +kernel
theorem dL_law_464 : decode cL_law 464 = .ok (.iadd, 1) := by decide +kernel
theorem dL_law_465 : decode cL_law 465 = .ok (.iaload, 1) := by decide +kernel
theorem dL_law_466 : decode cL_law 466 = .ok (.aload_n 0, 1) := by decide +kernel
theorem dL_law_467 : decode cL_law 467 = .ok (.iload_n 3, 1) := by decide +kernel
theorem dL_law_468 : decode cL_law 468 = .ok (.iconst 2, 1) := by decide +kernel
theorem dL_law_469 : decode cL_law 469 = .ok (.iadd, 1) := by decide +kernel
theorem dL_law_470 : decode cL_law 470 = .ok (.iaload, 1) := by decide +kernel
theorem dL_law_471 : decode cL_law 471 = .ok (.invokevirtual 59, 3) := by decide +kernel
theorem dL_law_474 : decode cL_law 474 = .ok (.if_icmp .eq 309, 3) := by decide +kernel
theorem dL_law_477 : decode cL_law 477 = .ok (.iconst 0, 1) := by decide +kernel
theorem dL_law_478 : decode cL_law 478 = .ok (.ireturn, 1) := by decide +kernel
theorem dL_law_479 : decode cL_law 479 = .ok (.aload_n 1, 1) := by decide +kernel
theorem dL_law_480 : decode cL_law 480 = .ok (.aload_n 0, 1) := by decide +kernel
theorem dL_law_481 : decode cL_law 481 = .ok (.iload_n 3, 1) := by decide +kernel
theorem dL_law_482 : decode cL_law 482 = .ok (.iconst 1, 1) := by decide +kernel
theorem dL_law_483 : decode cL_law 483 = .ok (.iadd, 1) := by decide +kernel
theorem dL_law_484 : decode cL_law 484 = .ok (.iaload, 1) := by decide +kernel
theorem dL_law_485 : decode cL_law 485 = .ok (.i2l, 1) := by decide +kernel
theorem dL_law_486 : decode cL_law 486 = .ok (.bipush 32, 2) := by decide +kernel
theorem dL_law_488 : decode cL_law 488 = .ok (.lshl, 1) := by decide +kernel
theorem dL_law_489 : decode cL_law 489 = .ok (.aload_n 0, 1) := by decide +kernel
theorem dL_law_490 : decode cL_law 490 = .ok (.iload_n 3, 1) := by decide +kernel
theorem dL_law_491 : decode cL_law 491 = .ok (.iconst 2, 1) := by decide +kernel
theorem dL_law_492 : decode cL_law 492 = .ok (.iadd, 1) := by decide +kernel
theorem dL_law_493 : decode cL_law 493 = .ok (.iaload, 1) := by decide +kernel
theorem dL_law_494 : decode cL_law 494 = .ok (.i2l, 1) := by decide +kernel
theorem dL_law_495 : decode cL_law 495 = .ok (.ldc2_w 60, 3) := by decide +kernel
theorem dL_law_498 : decode cL_law 498 = .ok (.land, 1) := by decide +kernel
theorem dL_law_499 : decode cL_law 499 = .ok (.lor, 1) := by decide +kernel
theorem dL_law_500 : decode cL_law 500 = .ok (.aload_n 0, 1) := by decide +kernel
theorem dL_law_501 : decode cL_law 501 = .ok (.iload_n 3, 1) := by decide +kernel
theorem dL_law_502 : decode cL_law 502 = .ok (.iconst 3, 1) := by decide +kernel
theorem dL_law_503 : decode cL_law 503 = .ok (.iadd, 1) := by decide +kernel
theorem dL_law_504 : decode cL_law 504 = .ok (.iaload, 1) := by decide +kernel
theorem dL_law_505 : decode cL_law 505 = .ok (.invokevirtual 62, 3) := by decide +kernel
theorem dL_law_508 : decode cL_law 508 = .ok (.aload_n 2, 1) := by decide +kernel
theorem dL_law_509 : decode cL_law 509 = .ok (.aload_n 0, 1) := by decide +kernel
theorem dL_law_510 : decode cL_law 510 = .ok (.iload_n 3, 1) := by decide +kernel
theorem dL_law_511 : decode cL_law 511 = .ok (.iconst 1, 1) := by decide +kernel
theorem dL_law_512 : decode cL_law 512 = .ok (.iadd, 1) := by decide +kernel
theorem dL_law_513 : decode cL_law 513 = .ok (.iaload, 1) := by decide +kernel
theorem dL_law_514 : decode cL_law 514 = .ok (.i2l, 1) := by decide +kernel
theorem dL_law_515 : decode cL_law 515 = .ok (.bipush 32, 2) := by decide +kernel
theorem dL_law_517 : decode cL_law 517 = .ok (.lshl, 1) := by decide +kernel
theorem dL_law_518 : decode cL_law 518 = .ok (.aload_n 0, 1) := by decide +kernel
theorem dL_law_519 : decode cL_law 519 = .ok (.iload_n 3, 1) := by decide +kernel
theorem dL_law_520 : decode cL_law 520 = .ok (.iconst 2, 1) := by decide +kernel
theorem dL_law_521 : decode cL_law 521 = .ok (.iadd, 1) := by decide +kernel
theorem dL_law_522 : decode cL_law 522 = .ok (.iaload, 1) := by decide +kernel
theorem dL_law_523 : decode cL_law 523 = .ok (.i2l, 1) := by decide +kernel
theorem dL_law_524 : decode cL_law 524 = .ok (.ldc2_w 60, 3) := by decide +kernel
theorem dL_law_527 : decode cL_law 527 = .ok (.land, 1) := by decide +kernel
theorem dL_law_528 : decode cL_law 528 = .ok (.lor, 1) := by decide +kernel
theorem dL_law_529 : decode cL_law 529 = .ok (.aload_n 0, 1) := by decide +kernel
theorem dL_law_530 : decode cL_law 530 = .ok (.iload_n 3, 1) := by decide +kernel
theorem dL_law_531 : decode cL_law 531 = .ok (.iconst 3, 1) := by decide +kernel
theorem dL_law_532 : decode cL_law 532 = .ok (.iadd, 1) := by decide +kernel
theorem dL_law_533 : decode cL_law 533 = .ok (.iaload, 1) := by decide +kernel
theorem dL_law_534 : decode cL_law 534 = .ok (.invokevirtual 66, 3) := by decide +kernel
theorem dL_law_537 : decode cL_law 537 = .ok (.if_icmp .eq 246, 3) := by decide +kernel
theorem dL_law_540 : decode cL_law 540 = .ok (.iconst 0, 1) := by decide +kernel
theorem dL_law_541 : decode cL_law 541 = .ok (.ireturn, 1) := by decide +kernel
theorem dL_law_542 : decode cL_law 542 = .ok (.aload_n 1, 1) := by decide +kernel
theorem dL_law_543 : decode cL_law 543 = .ok (.invokevirtual 67, 3) := by decide +kernel
theorem dL_law_546 : decode cL_law 546 = .ok (.aload_n 2, 1) := by decide +kernel
theorem dL_law_547 : decode cL_law 547 = .ok (.invokevirtual 71, 3) := by decide +kernel
theorem dL_law_550 : decode cL_law 550 = .ok (.if_icmp .eq 233, 3) := by decide +kernel
theorem dL_law_553 : decode cL_law 553 = .ok (.iconst 0, 1) := by decide +kernel
theorem dL_law_554 : decode cL_law 554 = .ok (.ireturn, 1) := by decide +kernel
theorem dL_law_555 : decode cL_law 555 = .ok (.aload_n 1, 1) := by decide +kernel
theorem dL_law_556 : decode cL_law 556 = .ok (.aload_n 0, 1) := by decide +kernel
theorem dL_law_557 : decode cL_law 557 = .ok (.iload_n 3, 1) := by decide +kernel
theorem dL_law_558 : decode cL_law 558 = .ok (.iconst 1, 1) := by decide +kernel
theorem dL_law_559 : decode cL_law 559 = .ok (.iadd, 1) := by decide +kernel
theorem dL_law_560 : decode cL_law 560 = .ok (.iaload, 1) := by decide +kernel
theorem dL_law_561 : decode cL_law 561 = .ok (.invokevirtual 72, 3) := by decide +kernel
theorem dL_law_564 : decode cL_law 564 = .ok (.aload_n 2, 1) := by decide +kernel
theorem dL_law_565 : decode cL_law 565 = .ok (.aload_n 0, 1) := by decide +kernel
theorem dL_law_566 : decode cL_law 566 = .ok (.iload_n 3, 1) := by decide +kernel
theorem dL_law_567 : decode cL_law 567 = .ok (.iconst 1, 1) := by decide +kernel
theorem dL_law_568 : decode cL_law 568 = .ok (.iadd, 1) := by decide +kernel
theorem dL_law_569 : decode cL_law 569 = .ok (.iaload, 1) := by decide +kernel
theorem dL_law_570 : decode cL_law 570 = .ok (.invokevirtual 75, 3) := by decide +kernel
theorem dL_law_573 : decode cL_law 573 = .ok (.if_icmp .eq 210, 3) := by decide +kernel
theorem dL_law_576 : decode cL_law 576 = .ok (.iconst 0, 1) := by decide +kernel
theorem dL_law_577 : decode cL_law 577 = .ok (.ireturn, 1) := by decide +kernel
theorem dL_law_578 : decode cL_law 578 = .ok (.aload_n 1, 1) := by decide +kernel
theorem dL_law_579 : decode cL_law 579 = .ok (.aload_n 0, 1) := by decide +kernel
theorem dL_law_580 : decode cL_law 580 = .ok (.iload_n 3, 1) := by decide +kernel
theorem dL_law_581 : decode cL_law 581 = .ok (.iconst 1, 1) := by decide +kernel
theorem dL_law_582 : decode cL_law 582 = .ok (.iadd, 1) := by decide +kernel
theorem dL_law_583 : decode cL_law 583 = .ok (.iaload, 1) := by decide +kernel
theorem dL_law_584 : decode cL_law 584 = .ok (.aload_n 0, 1) := by decide +kernel
theorem dL_law_585 : decode cL_law 585 = .ok (.iload_n 3, 1) := by decide +kernel
theorem dL_law_586 : decode cL_law 586 = .ok (.iconst 2, 1) := by decide +kernel
theorem dL_law_587 : decode cL_law 587 = .ok (.iadd, 1) := by decide +kernel
theorem dL_law_588 : decode cL_law 588 = .ok (.iaload, 1) := by decide +kernel
theorem dL_law_589 : decode cL_law 589 = .ok (.invokevirtual 76, 3) := by decide +kernel
theorem dL_law_592 : decode cL_law 592 = .ok (.aload_n 2, 1) := by decide +kernel
theorem dL_law_593 : decode cL_law 593 = .ok (.aload_n 0, 1) := by decide +kernel
theorem dL_law_594 : decode cL_law 594 = .ok (.iload_n 3, 1) := by decide +kernel
theorem dL_law_595 : decode cL_law 595 = .ok (.iconst 1, 1) := by decide +kernel
theorem dL_law_596 : decode cL_law 596 = .ok (.iadd, 1) := by decide +kernel
theorem dL_law_597 : decode cL_law 597 = .ok (.iaload, 1) := by decide +kernel
theorem dL_law_598 : decode cL_law 598 = .ok (.aload_n 0, 1) := by decide +kernel
theorem dL_law_599 : decode cL_law 599 = .ok (.iload_n 3, 1) := by decide +kernel
theorem dL_law_600 : decode cL_law 600 = .ok (.iconst 2, 1) := by decide +kernel
theorem dL_law_601 : decode cL_law 601 = .ok (.iadd, 1) := by decide +kernel
theorem dL_law_602 : decode cL_law 602 = .ok (.iaload, 1) := by decide +kernel
theorem dL_law_603 : decode cL_law 603 = .ok (.invokevirtual 79, 3) := by decide +kernel
theorem dL_law_606 : decode cL_law 606 = .ok (.if_icmp .eq 177, 3) := by decide +kernel
theorem dL_law_609 : decode cL_law 609 = .ok (.iconst 0, 1) := by decide +kernel
theorem dL_law_610 : decode cL_law 610 = .ok (.ireturn, 1) := by decide +kernel
theorem dL_law_611 : decode cL_law 611 = .ok (.aload_n 1, 1) := by decide +kernel
theorem dL_law_612 : decode cL_law 612 = .ok (.aload_n 0, 1) := by decide +kernel
theorem dL_law_613 : decode cL_law 613 = .ok (.iload_n 3, 1) := by decide +kernel
theorem dL_law_614 : decode cL_law 614 = .ok (.iconst 1, 1) := by decide +kernel
theorem dL_law_615 : decode cL_law 615 = .ok (.iadd, 1) := by decide +kernel
theorem dL_law_616 : decode cL_law 616 = .ok (.iaload, 1) := by decide +kernel
theorem dL_law_617 : decode cL_law 617 = .ok (.aload_n 0, 1) := by decide +kernel
theorem dL_law_618 : decode cL_law 618 = .ok (.iload_n 3, 1) := by decide +kernel
theorem dL_law_619 : decode cL_law 619 = .ok (.iconst 2, 1) := by decide +kernel
theorem dL_law_620 : decode cL_law 620 = .ok (.iadd, 1) := by decide +kernel
theorem dL_law_621 : decode cL_law 621 = .ok (.iaload, 1) := by decide +kernel
theorem dL_law_622 : decode cL_law 622 = .ok (.invokevirtual 80, 3) := by decide +kernel
theorem dL_law_625 : decode cL_law 625 = .ok (.aload_n 2, 1) := by decide +kernel
theorem dL_law_626 : decode cL_law 626 = .ok (.aload_n 0, 1) := by decide +kernel
theorem dL_law_627 : decode cL_law 627 = .ok (.iload_n 3, 1) := by decide +kernel
theorem dL_law_628 : decode cL_law 628 = .ok (.iconst 1, 1) := by decide +kernel
theorem dL_law_629 : decode cL_law 629 = .ok (.iadd, 1) := by decide +kernel
theorem dL_law_630 : decode cL_law 630 = .ok (.iaload, 1) := by decide +kernel
theorem dL_law_631 : decode cL_law 631 = .ok (.aload_n 0, 1) := by decide +kernel
theorem dL_law_632 : decode cL_law 632 = .ok (.iload_n 3, 1) := by decide +kernel
theorem dL_law_633 : decode cL_law 633 = .ok (.iconst 2, 1) := by decide +kernel
theorem dL_law_634 : decode cL_law 634 = .ok (.iadd, 1) := by decide +kernel
theorem dL_law_635 : decode cL_law 635 = .ok (.iaload, 1) := by decide +kernel
theorem dL_law_636 : decode cL_law 636 = .ok (.invokevirtual 83, 3) := by decide +kernel
theorem dL_law_639 : decode cL_law 639 = .ok (.if_icmp .eq 144, 3) := by decide +kernel
theorem dL_law_642 : decode cL_law 642 = .ok (.iconst 0, 1) := by decide +kernel
theorem dL_law_643 : decode cL_law 643 = .ok (.ireturn, 1) := by decide +kernel
theorem dL_law_644 : decode cL_law 644 = .ok (.aload_n 1, 1) := by decide +kernel
theorem dL_law_645 : decode cL_law 645 = .ok (.aload_n 0, 1) := by decide +kernel
theorem dL_law_646 : decode cL_law 646 = .ok (.iload_n 3, 1) := by decide +kernel
theorem dL_law_647 : decode cL_law 647 = .ok (.iconst 1, 1) := by decide +kernel
theorem dL_law_648 : decode cL_law 648 = .ok (.iadd, 1) := by decide +kernel
theorem dL_law_649 : decode cL_law 649 = .ok (.iaload, 1) := by decide +kernel
theorem dL_law_650 : decode cL_law 650 = .ok (.aload_n 0, 1) := by decide +kernel
theorem dL_law_651 : decode cL_law 651 = .ok (.iload_n 3, 1) := by decide +kernel
theorem dL_law_652 : decode cL_law 652 = .ok (.iconst 2, 1) := by decide +kernel
theorem dL_law_653 : decode cL_law 653 = .ok (.iadd, 1) := by decide +kernel
theorem dL_law_654 : decode cL_law 654 = .ok (.iaload, 1) := by decide +kernel
theorem dL_law_655 : decode cL_law 655 = .ok (.invokevirtual 84, 3) := by decide +kernel
theorem dL_law_658 : decode cL_law 658 = .ok (.aload_n 2, 1) := by decide +kernel
theorem dL_law_659 : decode cL_law 659 = .ok (.aload_n 0, 1) := by decide +kernel
theorem dL_law_660 : decode cL_law 660 = .ok (.iload_n 3, 1) := by decide +kernel
theorem dL_law_661 : decode cL_law 661 = .ok (.iconst 1, 1) := by decide +kernel
theorem dL_law_662 : decode cL_law 662 = .ok (.iadd, 1) := by decide +kernel
theorem dL_law_663 : decode cL_law 663 = .ok (.iaload, 1) := by decide +kernel
theorem dL_law_664 : decode cL_law 664 = .ok (.aload_n 0, 1) := by decide +kernel
theorem dL_law_665 : decode cL_law 665 = .ok (.iload_n 3, 1) := by decide +kernel
theorem dL_law_666 : decode cL_law 666 = .ok (.iconst 2, 1) := by decide +kernel
theorem dL_law_667 : decode cL_law 667 = .ok (.iadd, 1) := by decide +kernel
theorem dL_law_668 : decode cL_law 668 = .ok (.iaload, 1) := by decide +kernel
theorem dL_law_669 : decode cL_law 669 = .ok (.invokevirtual 87, 3) := by decide +kernel
theorem dL_law_672 : decode cL_law 672 = .ok (.if_icmp .eq 111, 3) := by decide +kernel
theorem dL_law_675 : decode cL_law 675 = .ok (.iconst 0, 1) := by decide +kernel
theorem dL_law_676 : decode cL_law 676 = .ok (.ireturn, 1) := by decide +kernel
theorem dL_law_677 : decode cL_law 677 = .ok (.aload_n 1, 1) := by decide +kernel
theorem dL_law_678 : decode cL_law 678 = .ok (.aload_n 0, 1) := by decide +kernel
theorem dL_law_679 : decode cL_law 679 = .ok (.iload_n 3, 1) := by decide +kernel
theorem dL_law_680 : decode cL_law 680 = .ok (.iconst 1, 1) := by decide +kernel
theorem dL_law_681 : decode cL_law 681 = .ok (.iadd, 1) := by decide +kernel
theorem dL_law_682 : decode cL_law 682 = .ok (.iaload, 1) := by decide +kernel
theorem dL_law_683 : decode cL_law 683 = .ok (.invokevirtual 88, 3) := by decide +kernel
theorem dL_law_686 : decode cL_law 686 = .ok (.aload_n 2, 1) := by decide +kernel
theorem dL_law_687 : decode cL_law 687 = .ok (.aload_n 0, 1) := by decide +kernel
theorem dL_law_688 : decode cL_law 688 = .ok (.iload_n 3, 1) := by decide +kernel
theorem dL_law_689 : decode cL_law 689 = .ok (.iconst 1, 1) := by decide +kernel
theorem dL_law_690 : decode cL_law 690 = .ok (.iadd, 1) := by decide +kernel
theorem dL_law_691 : decode cL_law 691 = .ok (.iaload, 1) := by decide +kernel
theorem dL_law_692 : decode cL_law 692 = .ok (.invokevirtual 91, 3) := by decide +kernel
theorem dL_law_695 : decode cL_law 695 = .ok (.if_icmp .eq 88, 3) := by decide +kernel
theorem dL_law_698 : decode cL_law 698 = .ok (.iconst 0, 1) := by decide +kernel
theorem dL_law_699 : decode cL_law 699 = .ok (.ireturn, 1) := by decide +kernel
theorem dL_law_700 : decode cL_law 700 = .ok (.aload_n 1, 1) := by decide +kernel
theorem dL_law_701 : decode cL_law 701 = .ok (.aload_n 0, 1) := by decide +kernel
theorem dL_law_702 : decode cL_law 702 = .ok (.iload_n 3, 1) := by decide +kernel
theorem dL_law_703 : decode cL_law 703 = .ok (.iconst 1, 1) := by decide +kernel
theorem dL_law_704 : decode cL_law 704 = .ok (.iadd, 1) := by decide +kernel
theorem dL_law_705 : decode cL_law 705 = .ok (.iaload, 1) := by decide +kernel
theorem dL_law_706 : decode cL_law 706 = .ok (.aload_n 0, 1) := by decide +kernel
theorem dL_law_707 : decode cL_law 707 = .ok (.iload_n 3, 1) := by decide +kernel
theorem dL_law_708 : decode cL_law 708 = .ok (.iconst 2, 1) := by decide +kernel
theorem dL_law_709 : decode cL_law 709 = .ok (.iadd, 1) := by decide +kernel
theorem dL_law_710 : decode cL_law 710 = .ok (.iaload, 1) := by decide +kernel
theorem dL_law_711 : decode cL_law 711 = .ok (.invokevirtual 92, 3) := by decide +kernel
theorem dL_law_714 : decode cL_law 714 = .ok (.aload_n 2, 1) := by decide +kernel
theorem dL_law_715 : decode cL_law 715 = .ok (.aload_n 0, 1) := by decide +kernel
theorem dL_law_716 : decode cL_law 716 = .ok (.iload_n 3, 1) := by decide +kernel
theorem dL_law_717 : decode cL_law 717 = .ok (.iconst 1, 1) := by decide +kernel
theorem dL_law_718 : decode cL_law 718 = .ok (.iadd, 1) := by decide +kernel
theorem dL_law_719 : decode cL_law 719 = .ok (.iaload, 1) := by decide +kernel
theorem dL_law_720 : decode cL_law 720 = .ok (.aload_n 0, 1) := by decide +kernel
theorem dL_law_721 : decode cL_law 721 = .ok (.iload_n 3, 1) := by decide +kernel
theorem dL_law_722 : decode cL_law 722 = .ok (.iconst 2, 1) := by decide +kernel
theorem dL_law_723 : decode cL_law 723 = .ok (.iadd, 1) := by decide +kernel
theorem dL_law_724 : decode cL_law 724 = .ok (.iaload, 1) := by decide +kernel
theorem dL_law_725 : decode cL_law 725 = .ok (.invokevirtual 95, 3) := by decide +kernel
theorem dL_law_728 : decode cL_law 728 = .ok (.if_icmp .eq 55, 3) := by decide +kernel
theorem dL_law_731 : decode cL_law 731 = .ok (.iconst 0, 1) := by decide +kernel
theorem dL_law_732 : decode cL_law 732 = .ok (.ireturn, 1) := by decide +kernel
theorem dL_law_733 : decode cL_law 733 = .ok (.aload_n 1, 1) := by decide +kernel
theorem dL_law_734 : decode cL_law 734 = .ok (.invokevirtual 96, 3) := by decide +kernel
theorem dL_law_737 : decode cL_law 737 = .ok (.aload_n 2, 1) := by decide +kernel
theorem dL_law_738 : decode cL_law 738 = .ok (.invokevirtual 99, 3) := by decide +kernel
theorem dL_law_741 : decode cL_law 741 = .ok (.if_icmp .eq 42, 3) := by decide +kernel
theorem dL_law_744 : decode cL_law 744 = .ok (.iconst 0, 1) := by decide +kernel
theorem dL_law_745 : decode cL_law 745 = .ok (.ireturn, 1) := by decide +kernel
theorem dL_law_746 : decode cL_law 746 = .ok (.aload_n 1, 1) := by decide +kernel
theorem dL_law_747 : decode cL_law 747 = .ok (.aload_n 0, 1) := by decide +kernel
theorem dL_law_748 : decode cL_law 748 = .ok (.iload_n 3, 1) := by decide +kernel
theorem dL_law_749 : decode cL_law 749 = .ok (.iconst 1, 1) := by decide +kernel
theorem dL_law_750 : decode cL_law 750 = .ok (.iadd, 1) := by decide +kernel
theorem dL_law_751 : decode cL_law 751 = .ok (.iaload, 1) := by decide +kernel
theorem dL_law_752 : decode cL_law 752 = .ok (.invokevirtual 100, 3) := by decide +kernel
theorem dL_law_755 : decode cL_law 755 = .ok (.aload_n 2, 1) := by decide +kernel
theorem dL_law_756 : decode cL_law 756 = .ok (.aload_n 0, 1) := by decide +kernel
theorem dL_law_757 : decode cL_law 757 = .ok (.iload_n 3, 1) := by decide +kernel
theorem dL_law_758 : decode cL_law 758 = .ok (.iconst 1, 1) := by decide +kernel
theorem dL_law_759 : decode cL_law 759 = .ok (.iadd, 1) := by decide +kernel
theorem dL_law_760 : decode cL_law 760 = .ok (.iaload, 1) := by decide +kernel
theorem dL_law_761 : decode cL_law 761 = .ok (.invokevirtual 103, 3) := by decide +kernel
theorem dL_law_764 : decode cL_law 764 = .ok (.if_icmp .eq 19, 3) := by decide +kernel
theorem dL_law_767 : decode cL_law 767 = .ok (.iconst 0, 1) := by decide +kernel
theorem dL_law_768 : decode cL_law 768 = .ok (.ireturn, 1) := by decide +kernel
theorem dL_law_769 : decode cL_law 769 = .ok (.aload_n 1, 1) := by decide +kernel
theorem dL_law_770 : decode cL_law 770 = .ok (.invokevirtual 104, 3) := by decide +kernel
theorem dL_law_773 : decode cL_law 773 = .ok (.aload_n 2, 1) := by decide +kernel
theorem dL_law_774 : decode cL_law 774 = .ok (.invokevirtual 108, 3) := by decide +kernel
theorem dL_law_777 : decode cL_law 777 = .ok (.lcmp, 1) := by decide +kernel
theorem dL_law_778 : decode cL_law 778 = .ok (.ifCond .eq 5, 3) := by decide +kernel
theorem dL_law_781 : decode cL_law 781 = .ok (.iconst 0, 1) := by decide +kernel
theorem dL_law_782 : decode cL_law 782 = .ok (.ireturn, 1) := by decide +kernel
theorem dL_law_783 : decode cL_law 783 = .ok (.iinc 3 4, 3) := by decide +kernel
theorem dL_law_786 : decode cL_law 786 = .ok (.goto (-768), 3) := by decide +kernel
theorem dL_law_789 : decode cL_law 789 = .ok (.iconst 1, 1) := by decide +kernel
theorem dL_law_790 : decode cL_law 790 = .ok (.ireturn, 1) := by decide +kernel
end
section
/-! MY WORLD: every cell has an id; the int slots of all cells are the rows of V, the longs T, the references (ids again) R; α tells each id's address. 0 RockRoad, 1 swells, 2 Layers, 3 tons, 4 worths, 5 ships, 6 line, 7 Draft, 8 bytes, 9 terms, 10 Letters, 11 queues, 12 dug, 13 comings; 14 Model, 15 swell, 16 tons, 17 worth, 18 kind, 19 came, 20 wants, 21 water, 22 done, 23 cargo, 24 took, 25 queue, 26 dug, 27 comes, 28 draft, 29 terms, 30 read, 31 isMet; 32 + 4 i the Ship i, then its cargo, terms, log. -/
abbrev wG : Type := va_G × (Nat → ClassId)
abbrev wS : Type := (Nat → Nat → Int32) × (Nat → Int64) × (Nat → Nat → Option Nat)
def wc (g : wG) (α : Nat → Nat) (i : Nat) (v : Nat → Int32) (t : Int64) (r : Nat → Option Nat) : va_E :=
  match i with
  | 0 => .inr (4, [.ref (α 1), .ref (α 2), .ref (α 5), .ref (α 6), .ref (α 7), .ref (α 10), .int (v 6), .int (v 7), .int (v 8), .long t])
  | 1 => .inl (g.2 0, 201, .inl v)
  | 2 => .inr (1, [.ref (α 3), .ref (α 4), .int (v 2)])
  | 3 => .inl (g.2 0, 6, .inl v)
  | 4 => .inl (g.2 0, 6, .inl v)
  | 5 => .inl (g.2 2, 10, .inr (.inr (.inr (.inr (fun j => (r j).map α)))))
  | 6 => .inl (g.2 2, 10, .inr (.inr (.inr (.inr (fun j => (r j).map α)))))
  | 7 => .inr (0, [.ref (α 8), .ref (α 9), .int (v 2)])
  | 8 => .inl (g.2 0, 30, .inl v)
  | 9 => .inl (g.2 0, 6, .inl v)
  | 10 => .inr (2, [.ref (α 11), .ref (α 12), .ref (α 13)])
  | 11 => .inl (g.2 0, 200, .inl v)
  | 12 => .inl (g.2 0, 200, .inl v)
  | 13 => .inl (g.2 0, 200, .inl v)
  | 14 => .inr (5, [.int (v 0), .long t, .int (v 2), .ref (α 15), .int (v 4), .ref (α 16), .ref (α 17), .int (v 7), .ref (α 18), .ref (α 19), .ref (α 20), .ref (α 21), .ref (α 22), .ref (α 23), .ref (α 24), .ref (α 25), .ref (α 26), .ref (α 27), .int (v 18), .int (v 19), .ref (α 28), .int (v 21), .ref (α 29), .ref (α 30), .ref (α 31)])
  | 15 => .inl (g.2 0, 201, .inl v)
  | 16 => .inl (g.2 0, 6, .inl v)
  | 17 => .inl (g.2 0, 6, .inl v)
  | 18 => .inl (g.2 0, 10, .inl v)
  | 19 => .inl (g.2 0, 10, .inl v)
  | 20 => .inl (g.2 0, 10, .inl v)
  | 21 => .inl (g.2 0, 10, .inl v)
  | 22 => .inl (g.2 0, 10, .inl v)
  | 23 => .inl (g.2 0, 60, .inl v)
  | 24 => .inl (g.2 0, 2010, .inl v)
  | 25 => .inl (g.2 0, 201, .inl v)
  | 26 => .inl (g.2 0, 201, .inl v)
  | 27 => .inl (g.2 0, 201, .inl v)
  | 28 => .inl (g.2 0, 30, .inl v)
  | 29 => .inl (g.2 0, 60, .inl v)
  | 30 => .inl (g.2 0, 6, .inl v)
  | 31 => .inl (g.2 1, 10, .inl v)
  | i + 32 => if i % 4 = 0 then .inr (3, [.int (v 0), .int (v 1), .int (v 2), .ref (α (i + 33)), .ref (α (i + 34)), .ref (α (i + 35)), .int (v 6), .int (v 7), .int (v 8), .int (v 9)]) else if i % 4 = 3 then .inl (g.2 0, 200, .inl v) else .inl (g.2 0, 6, .inl v)
theorem wc_ship (g : wG) (α : Nat → Nat) (i : Nat) (v : Nat → Int32) (t : Int64) (r : Nat → Option Nat) : wc g α (32 + 4 * i) v t r = .inr (3, [.int (v 0), .int (v 1), .int (v 2), .ref (α (33 + 4 * i)), .ref (α (34 + 4 * i)), .ref (α (35 + 4 * i)), .int (v 6), .int (v 7), .int (v 8), .int (v 9)]) := by
  rw [Nat.add_comm 32 (4 * i), Nat.add_comm 33 (4 * i), Nat.add_comm 34 (4 * i), Nat.add_comm 35 (4 * i)]
  exact if_pos (by omega)
theorem wc_cargo (g : wG) (α : Nat → Nat) (i : Nat) (v : Nat → Int32) (t : Int64) (r : Nat → Option Nat) : wc g α (33 + 4 * i) v t r = .inl (g.2 0, 6, .inl v) := by
  rw [show 33 + 4 * i = (4 * i + 1) + 32 by omega]
  exact (if_neg (by omega)).trans (if_neg (by omega))
theorem wc_terms (g : wG) (α : Nat → Nat) (i : Nat) (v : Nat → Int32) (t : Int64) (r : Nat → Option Nat) : wc g α (34 + 4 * i) v t r = .inl (g.2 0, 6, .inl v) := by
  rw [show 34 + 4 * i = (4 * i + 2) + 32 by omega]
  exact (if_neg (by omega)).trans (if_neg (by omega))
theorem wc_log (g : wG) (α : Nat → Nat) (i : Nat) (v : Nat → Int32) (t : Int64) (r : Nat → Option Nat) : wc g α (35 + 4 * i) v t r = .inl (g.2 0, 200, .inl v) := by
  rw [show 35 + 4 * i = (4 * i + 3) + 32 by omega]
  exact (if_neg (by omega)).trans (if_pos (by omega))
def wld (g : wG) (α : Nat → Nat) (σ : wS) (N : Nat) : va_W := (List.range N).map (fun i => (α i, wc g α i (σ.1 i) (σ.2.1 i) (σ.2.2 i)))
def wtys (g : wG) : List (ClassId × FieldType) := [(g.2 0, .int), (g.2 1, .boolean), (g.2 2, .object "RockRoad$Ship")]
theorem wld_get {g : wG} {α : Nat → Nat} {σ : wS} {N i : Nat} (h : i < N) : (wld g α σ N)[i]? = some (α i, wc g α i (σ.1 i) (σ.2.1 i) (σ.2.2 i)) := by
  simp [wld, List.getElem?_map, List.getElem?_range h]
theorem wld_set {g : wG} {α : Nat → Nat} {σ σ' : wS} {N i : Nat} {e : va_E} (h : i < N) (he : wc g α i (σ'.1 i) (σ'.2.1 i) (σ'.2.2 i) = e) (ho : ∀ j, j ≠ i → σ'.1 j = σ.1 j ∧ σ'.2.1 j = σ.2.1 j ∧ σ'.2.2 j = σ.2.2 j) : (wld g α σ N).set i (α i, e) = wld g α σ' N := by
  apply List.ext_getElem?
  intro j
  by_cases hj : j = i
  · subst hj
    rw [List.getElem?_set_self (by simp [wld]; exact h), wld_get h, he]
  · rw [List.getElem?_set_ne (Ne.symm hj)]
    by_cases hN : j < N
    · rw [wld_get hN, wld_get hN, (ho j hj).1, (ho j hj).2.1, (ho j hj).2.2]
    · rw [List.getElem?_eq_none (by simp [wld]; omega), List.getElem?_eq_none (by simp [wld]; omega)]
/-- writes: an int slot, a long, a reference -/
def wu (σ : wS) (i k : Nat) (x : Int32) : wS := (va_up σ.1 i (upd (σ.1 i) k x), σ.2)
def wuL (σ : wS) (i : Nat) (x : Int64) : wS := (σ.1, va_up σ.2.1 i x, σ.2.2)
def wuR (σ : wS) (i k : Nat) (x : Option Nat) : wS := (σ.1, σ.2.1, va_up σ.2.2 i (va_up (σ.2.2 i) k x))
def wX (p : Program) (s : State) (m : MethodId) (args : Array Value) (c : Code) (cc : ByteArray) (nL : Nat) (own : String) (g : wG) : Prop := CallFix p m c cc nL s args lw_all own ∧ va_K g.1 vwCl (wtys g) s
def wI (g : wG) (α : Nat → Nat) (N : Nat) (A : Nat → Prop) (H0 H : Heap) (locs : List Loc) (σ : wS) : Prop := va_P g.1 vwCl (wld g α σ N) H ∧ va_D A (wld g α σ N) ∧ va_S A H0 H locs
def wA (α : Nat → Nat) (N sz : Nat) : Nat → Prop := fun q => (∃ i, i < N ∧ q = α i) ∨ sz ≤ q
def wPc (g : wG) (α : Nat → Nat) (N : Nat) (σ : wS) (av : List Value) : Array Value → State → Prop := va_Pc av (fun U => va_P g.1 vwCl (wld g α σ N) U.heap ∧ va_K g.1 vwCl (wtys g) U ∧ va_D (fun _ => True) (wld g α σ N))
def wPs (g : wG) (α : Nat → Nat) (N sz : Nat) (σ : wS) (av : List Value) : Array Value → State → Prop := va_Pc av (fun U => U.heap.size = sz ∧ va_P g.1 vwCl (wld g α σ N) U.heap ∧ va_K g.1 vwCl (wtys g) U ∧ va_D (fun _ => True) (wld g α σ N))
theorem wPc_blind {g : wG} {α : Nat → Nat} {N : Nat} {σ : wS} {av : List Value} : FrameBlind (wPc g α N σ av) := fun a U f mk q => by
  obtain ⟨q0, qP, qK, qD⟩ := q
  exact ⟨q0, qP, va_K.moved (u := U) (U := U.calling f mk a) (Vm.Alike.refl U.vm) qK, qD⟩
theorem wPs_blind {g : wG} {α : Nat → Nat} {N sz : Nat} {σ : wS} {av : List Value} : FrameBlind (wPs g α N sz σ av) := fun a U f mk q => by
  obtain ⟨q0, q1, qP, qK, qD⟩ := q
  exact ⟨q0, q1, qP, va_K.moved (u := U) (U := U.calling f mk a) (Vm.Alike.refl U.vm) qK, qD⟩
/-- the ends of methods that read alone: an int (or a boolean), a reference; of methods that write: an int, nothing, a long -/
def wB (g : wG) (α : Nat → Nat) (N : Nat) : wS → State → Prop := fun σ t => va_P g.1 vwCl (wld g α σ N) t.heap
section WR
variable {p : Program} {l : Launch} {e : Env} {R : Room} {s : State} {m : MethodId} {args : Array Value} {below : List Frame} {meth : Method} {c : Code} {H : Heap} {locs : List Loc} {cells slots : Nat} {Q : State → Prop}
variable {pc : Nat} {ls : Array Slot} {rest : List Value} {g : wG} {α : Nat → Nat} {N : Nat} {A : Nat → Prop} {H0 : Heap} {σ : wS} {own : String} {cc : ByteArray} {nL : Nat}
theorem w_get (X : wX p s m args c cc nL own g) (I : wI g α N A H0 H locs σ) (i : Nat) (hi : i < N) {ci Nf index k : Nat} {fs : List Value} {C : String} {T : u_T} {v : Value} (he : wc g α i (σ.1 i) (σ.2.1 i) (σ.2.2 i) = .inr (ci, fs)) (hc : vwCl[ci]? = some (C, T, Nf)) (hin : ∀ w ∈ u_ws C T Nf, w ∈ lw_all) (hk : k < Nf) (hl : Cond.fieldLink own index (T k).1 (T k).2.1 (T k).2.2.1 ∈ lw_all) (hv : fs[k]? = some v) (hdg : decode cc pc = .ok (.getfield index, 3))
    (kk : W p l e R s m args below meth c H locs cells slots Q (F0 m (pc + 3) ls (v :: rest))) : W p l e R s m args below meth c H locs cells slots Q (F0 m pc ls (.ref (α i) :: rest)) :=
  va_get (D := g.1) X.1.1 X.1.2.1 X.1.2.2.2.2 hin X.1.2.2.2.1 X.2 I.1 i ((wld_get hi).trans (by rw [he])) hc k hk (X.1.2.2.2.2 _ hl) (fun _ h => h) hv hdg kk
theorem w_put (X : wX p s m args c cc nL own g) (I : wI g α N A H0 H locs σ) (i : Nat) (hi : i < N) {ci Nf index k : Nat} {fs : List Value} {C : String} {T : u_T} {x : Int32} (he : wc g α i (σ.1 i) (σ.2.1 i) (σ.2.2 i) = .inr (ci, fs)) (he2 : wc g α i (upd (σ.1 i) k x) (σ.2.1 i) (σ.2.2 i) = .inr (ci, fs.set k (.int x))) (hc : vwCl[ci]? = some (C, T, Nf)) (hin : ∀ w ∈ u_ws C T Nf, w ∈ lw_all) (ty0 : Nat → FieldType) (hty : ∀ k, k < Nf → parseFieldDescriptor (T k).2.2.1 = some (ty0 k)) (hnm : ∀ a, a < Nf → ∀ b, b < Nf → a ≠ b → (T a).2.1 ≠ (T b).2.1) (hk : k < Nf) (hl : Cond.fieldLink own index (T k).1 (T k).2.1 (T k).2.2.1 ∈ lw_all) (hfin : (T k).2.2.2 = false) (hd : parseFieldDescriptor (T k).2.2.1 = some .int) (hlf : k < fs.length) (hdg : decode cc pc = .ok (.putfield index, 3))
    (kk : ∀ (H1 : Heap) (locs1 : List Loc), wI g α N A H0 H1 locs1 (wu σ i k x) → W p l e R s m args below meth c H1 locs1 cells slots Q (F0 m (pc + 3) ls rest)) : W p l e R s m args below meth c H locs cells slots Q (F0 m pc ls (.int x :: .ref (α i) :: rest)) := by
  have hset : (wld g α σ N).set i (α i, .inr (ci, fs.set k (.int x))) = wld g α (wu σ i k x) N := wld_set hi (by rw [← he2]; simp [wu, va_up_self]) (fun j hj => ⟨by simp [wu, va_up_ne _ _ hj], rfl, rfl⟩)
  refine va_put (D := g.1) X.1.1 X.1.2.1 X.1.2.2.2.2 hin ty0 hty hnm X.1.2.2.2.1 X.2 I.1 I.2.1 I.2.2 i ((wld_get hi).trans (by rw [he])) hc k hk (X.1.2.2.2.2 _ hl) (fun _ h => h) hfin hd rfl rfl hlf hdg (fun H1 locs1 hP hD hS => ?_)
  rw [hset] at hP hD
  exact kk H1 locs1 ⟨hP, hD, hS⟩
theorem w_putL (X : wX p s m args c cc nL own g) (I : wI g α N A H0 H locs σ) (i : Nat) (hi : i < N) {ci Nf index k : Nat} {fs : List Value} {C : String} {T : u_T} {x : Int64} (he : wc g α i (σ.1 i) (σ.2.1 i) (σ.2.2 i) = .inr (ci, fs)) (he2 : wc g α i (σ.1 i) x (σ.2.2 i) = .inr (ci, fs.set k (.long x))) (hc : vwCl[ci]? = some (C, T, Nf)) (hin : ∀ w ∈ u_ws C T Nf, w ∈ lw_all) (ty0 : Nat → FieldType) (hty : ∀ k, k < Nf → parseFieldDescriptor (T k).2.2.1 = some (ty0 k)) (hnm : ∀ a, a < Nf → ∀ b, b < Nf → a ≠ b → (T a).2.1 ≠ (T b).2.1) (hk : k < Nf) (hl : Cond.fieldLink own index (T k).1 (T k).2.1 (T k).2.2.1 ∈ lw_all) (hfin : (T k).2.2.2 = false) (hd : parseFieldDescriptor (T k).2.2.1 = some .long) (hlf : k < fs.length) (hdg : decode cc pc = .ok (.putfield index, 3))
    (kk : ∀ (H1 : Heap) (locs1 : List Loc), wI g α N A H0 H1 locs1 (wuL σ i x) → W p l e R s m args below meth c H1 locs1 cells slots Q (F0 m (pc + 3) ls rest)) : W p l e R s m args below meth c H locs cells slots Q (F0 m pc ls (.long x :: .ref (α i) :: rest)) := by
  have hset : (wld g α σ N).set i (α i, .inr (ci, fs.set k (.long x))) = wld g α (wuL σ i x) N := wld_set hi (by rw [← he2]; simp [wuL, va_up_self]) (fun j hj => ⟨rfl, by simp [wuL, va_up_ne _ _ hj], rfl⟩)
  refine va_put (D := g.1) X.1.1 X.1.2.1 X.1.2.2.2.2 hin ty0 hty hnm X.1.2.2.2.1 X.2 I.1 I.2.1 I.2.2 i ((wld_get hi).trans (by rw [he])) hc k hk (X.1.2.2.2.2 _ hl) (fun _ h => h) hfin hd rfl rfl hlf hdg (fun H1 locs1 hP hD hS => ?_)
  rw [hset] at hP hD
  exact kk H1 locs1 ⟨hP, hD, hS⟩
theorem w_ld (X : wX p s m args c cc nL own g) (I : wI g α N A H0 H locs σ) (i : Nat) (hi : i < N) {n k : Nat} {x : Int32} (he : ∀ v t r, wc g α i v t r = .inl (g.2 0, n, .inl v)) (hx : x = nI k) (hk : k < n) (hn : n < 2 ^ 31) (hdg : decode cc pc = .ok (.iaload, 1))
    (kk : W p l e R s m args below meth c H locs cells slots Q (F0 m (pc + 1) ls (.int (σ.1 i k) :: rest))) : W p l e R s m args below meth c H locs cells slots Q (F0 m pc ls (.int x :: .ref (α i) :: rest)) := by
  subst hx
  refine va_iald (D := g.1) X.1.1 X.1.2.1 X.2 I.1 i 0 ((wld_get hi).trans (by rw [he])) rfl (vp_in_nI hk hn) hdg ?_
  rw [nI_clamp (by omega)]
  exact kk
theorem w_ldz (X : wX p s m args c cc nL own g) (I : wI g α N A H0 H locs σ) (i : Nat) (hi : i < N) {n k : Nat} {x : Int32} (he : ∀ v t r, wc g α i v t r = .inl (g.2 1, n, .inl v)) (hx : x = nI k) (hk : k < n) (hn : n < 2 ^ 31) (hdg : decode cc pc = .ok (.baload, 1))
    (kk : W p l e R s m args below meth c H locs cells slots Q (F0 m (pc + 1) ls (.int (σ.1 i k) :: rest))) : W p l e R s m args below meth c H locs cells slots Q (F0 m pc ls (.int x :: .ref (α i) :: rest)) := by
  subst hx
  refine va_zald (D := g.1) X.1.1 X.1.2.1 X.2 I.1 i 1 ((wld_get hi).trans (by rw [he])) rfl (vp_in_nI hk hn) hdg ?_
  rw [nI_clamp (by omega)]
  exact kk
theorem w_st (X : wX p s m args c cc nL own g) (I : wI g α N A H0 H locs σ) (i : Nat) (hi : i < N) {n k : Nat} {x y : Int32} (he : ∀ v t r, wc g α i v t r = .inl (g.2 0, n, .inl v)) (hx : x = nI k) (hk : k < n) (hn : n < 2 ^ 31) (hdg : decode cc pc = .ok (.iastore, 1))
    (kk : ∀ (H1 : Heap) (locs1 : List Loc), wI g α N A H0 H1 locs1 (wu σ i k y) → W p l e R s m args below meth c H1 locs1 cells slots Q (F0 m (pc + 1) ls rest)) : W p l e R s m args below meth c H locs cells slots Q (F0 m pc ls (.int y :: .int x :: .ref (α i) :: rest)) := by
  subst hx
  refine va_iast (D := g.1) X.1.1 X.1.2.1 X.2 I.1 I.2.1 I.2.2 i 0 ((wld_get hi).trans (by rw [he])) rfl (vp_in_nI hk hn) hdg (fun H1 locs1 hP hD hS => ?_)
  rw [nI_clamp (by omega)] at hP hD
  have hset : (wld g α σ N).set i (α i, .inl (g.2 0, n, .inl (upd (σ.1 i) k y))) = wld g α (wu σ i k y) N := wld_set hi (by rw [he]; simp [wu, va_up_self]) (fun j hj => ⟨by simp [wu, va_up_ne _ _ hj], rfl, rfl⟩)
  rw [hset] at hP hD
  exact kk H1 locs1 ⟨hP, hD, hS⟩
theorem w_stz (X : wX p s m args c cc nL own g) (I : wI g α N A H0 H locs σ) (i : Nat) (hi : i < N) {n k : Nat} {x y : Int32} (he : ∀ v t r, wc g α i v t r = .inl (g.2 1, n, .inl v)) (hx : x = nI k) (hk : k < n) (hn : n < 2 ^ 31) (hy : vp_nar .boolean y = y) (hdg : decode cc pc = .ok (.bastore, 1))
    (kk : ∀ (H1 : Heap) (locs1 : List Loc), wI g α N A H0 H1 locs1 (wu σ i k y) → W p l e R s m args below meth c H1 locs1 cells slots Q (F0 m (pc + 1) ls rest)) : W p l e R s m args below meth c H locs cells slots Q (F0 m pc ls (.int y :: .int x :: .ref (α i) :: rest)) := by
  subst hx
  refine va_zast (D := g.1) X.1.1 X.1.2.1 X.2 I.1 I.2.1 I.2.2 i 1 ((wld_get hi).trans (by rw [he])) rfl (vp_in_nI hk hn) hdg (fun H1 locs1 hP hD hS => ?_)
  rw [nI_clamp (by omega), hy] at hP hD
  have hset : (wld g α σ N).set i (α i, .inl (g.2 1, n, .inl (upd (σ.1 i) k y))) = wld g α (wu σ i k y) N := wld_set hi (by rw [he]; simp [wu, va_up_self]) (fun j hj => ⟨by simp [wu, va_up_ne _ _ hj], rfl, rfl⟩)
  rw [hset] at hP hD
  exact kk H1 locs1 ⟨hP, hD, hS⟩
theorem w_ldq (X : wX p s m args c cc nL own g) (I : wI g α N A H0 H locs σ) (i : Nat) (hi : i < N) {n k j : Nat} {x : Int32} (he : ∀ v t r, wc g α i v t r = .inl (g.2 2, n, .inr (.inr (.inr (.inr (fun j => (r j).map α)))))) (hx : x = nI k) (hk : k < n) (hn : n < 2 ^ 31) (hj : σ.2.2 i k = some j) (hdg : decode cc pc = .ok (.aaload, 1))
    (kk : W p l e R s m args below meth c H locs cells slots Q (F0 m (pc + 1) ls (.ref (α j) :: rest))) : W p l e R s m args below meth c H locs cells slots Q (F0 m pc ls (.int x :: .ref (α i) :: rest)) := by
  subst hx
  refine va_aldq (D := g.1) X.1.1 X.1.2.1 X.2 I.1 i 2 ((wld_get hi).trans (by rw [he])) rfl (vp_in_nI hk hn) hdg ?_
  rw [nI_clamp (by omega), hj]
  exact kk
theorem w_stq (X : wX p s m args c cc nL own g) (I : wI g α N A H0 H locs σ) (i : Nat) (hi : i < N) {n k j : Nat} {x : Int32} (he : ∀ v t r, wc g α i v t r = .inl (g.2 2, n, .inr (.inr (.inr (.inr (fun j => (r j).map α)))))) (hx : x = nI k) (hk : k < n) (hn : n < 2 ^ 31) (hjN : j < N) {vs : List Value} (hj : wc g α j (σ.1 j) (σ.2.1 j) (σ.2.2 j) = .inr (3, vs)) (hdg : decode cc pc = .ok (.aastore, 1))
    (kk : ∀ (H1 : Heap) (locs1 : List Loc), wI g α N A H0 H1 locs1 (wuR σ i k (some j)) → W p l e R s m args below meth c H1 locs1 cells slots Q (F0 m (pc + 1) ls rest)) : W p l e R s m args below meth c H locs cells slots Q (F0 m pc ls (.ref (α j) :: .int x :: .ref (α i) :: rest)) := by
  subst hx
  refine va_astq (D := g.1) X.1.1 X.1.2.1 X.2 I.1 I.2.1 I.2.2 i 2 j 3 ((wld_get hi).trans (by rw [he])) rfl ((wld_get hjN).trans (by rw [hj])) rfl (vp_in_nI hk hn) hdg (fun H1 locs1 hP hD hS => ?_)
  rw [nI_clamp (by omega)] at hP hD
  have hset : (wld g α σ N).set i (α i, .inl (g.2 2, n, .inr (.inr (.inr (.inr (va_up (fun j => (σ.2.2 i j).map α) k (some (α j)))))))) = wld g α (wuR σ i k (some j)) N := wld_set hi (by
      rw [he]
      have : (fun j' => ((wuR σ i k (some j)).2.2 i j').map α) = va_up (fun j => (σ.2.2 i j).map α) k (some (α j)) := by
        funext z
        by_cases hz : z = k
        · subst hz; simp [wuR, va_up]
        · simp [wuR, va_up, hz]
      rw [this]) (fun j hj => ⟨rfl, rfl, by simp [wuR, va_up_ne _ _ hj]⟩)
  rw [hset] at hP hD
  exact kk H1 locs1 ⟨hP, hD, hS⟩
/-- ends -/
theorem w_iretS {post : Int32 → Prop} {v : Int32} (X : wX p s m args c cc nL own g) (hr : meth.sig.returnType = some .int) (hlk : meth.locks = false) (hp : post v) (hdg : decode cc pc = .ok (.ireturn, 1)) : W p l e R s m args below meth c s.heap [] 0 0 (MQ below (vp_Si post) args s 0 0 (fun _ => False)) (F0 m pc ls [.int v]) :=
  W.iret X.1.1 X.1.2.1 hr (fun t ht hW => ⟨v, rfl, hp, ht⟩) (fun q h => by cases h) hdg
theorem w_zretS {post : Int32 → Prop} {v : Int32} (X : wX p s m args c cc nL own g) (hr : meth.sig.returnType = some .boolean) (hlk : meth.locks = false) (hv : v = 0 ∨ v = 1) (hp : post v) (hdg : decode cc pc = .ok (.ireturn, 1)) : W p l e R s m args below meth c s.heap [] 0 0 (MQ below (vp_Si post) args s 0 0 (fun _ => False)) (F0 m pc ls [.int v]) :=
  W.zret X.1.1 X.1.2.1 hr (by rcases hv with h | h <;> subst h <;> rfl) (fun t ht hW => ⟨v, rfl, hp, ht⟩) (fun q h => by cases h) hdg
theorem w_iret {post : Int32 → wS → Prop} {v : Int32} (X : wX p s m args c cc nL own g) (I : wI g α N A s.heap H locs σ) (hr : meth.sig.returnType = some .int) (hlk : meth.locks = false) (hp : post v σ) (hdg : decode cc pc = .ok (.ireturn, 1)) : W p l e R s m args below meth c H locs cells slots (MQ below (va_Qi post (wB g α N) A) args s cells slots A) (F0 m pc ls [.int v]) :=
  W.iret X.1.1 X.1.2.1 hr (fun t ht hW => ⟨⟨v, σ, rfl, hp, by show va_P _ _ _ t.heap; rw [ht]; exact I.1⟩, I.2.2.F ht⟩) I.2.2.2.2 hdg
theorem w_zret {post : Int32 → wS → Prop} {v : Int32} (X : wX p s m args c cc nL own g) (I : wI g α N A s.heap H locs σ) (hr : meth.sig.returnType = some .boolean) (hlk : meth.locks = false) (hv : v = 0 ∨ v = 1) (hp : post v σ) (hdg : decode cc pc = .ok (.ireturn, 1)) : W p l e R s m args below meth c H locs cells slots (MQ below (va_Qi post (wB g α N) A) args s cells slots A) (F0 m pc ls [.int v]) :=
  W.zret X.1.1 X.1.2.1 hr (by rcases hv with h | h <;> subst h <;> rfl) (fun t ht hW => ⟨⟨v, σ, rfl, hp, by show va_P _ _ _ t.heap; rw [ht]; exact I.1⟩, I.2.2.F ht⟩) I.2.2.2.2 hdg
theorem w_vret {post : wS → Prop} (X : wX p s m args c cc nL own g) (I : wI g α N A s.heap H locs σ) (hr : meth.sig.returnType = none) (hlk : meth.locks = false) (hp : post σ) (hdg : decode cc pc = .ok (.return_, 1)) : W p l e R s m args below meth c H locs cells slots (MQ below (va_Qv post (wB g α N) A) args s cells slots A) (F0 m pc ls []) :=
  W.vret X.1.1 X.1.2.1 hr (fun t ht hW => ⟨⟨σ, rfl, hp, by show va_P _ _ _ t.heap; rw [ht]; exact I.1⟩, I.2.2.F ht⟩) I.2.2.2.2 hdg
theorem w_lretS {post : Int64 → Prop} {v : Int64} (X : wX p s m args c cc nL own g) (hr : meth.sig.returnType = some .long) (hlk : meth.locks = false) (hp : post v) (hdg : decode cc pc = .ok (.lreturn, 1)) : W p l e R s m args below meth c s.heap [] 0 0 (MQ below (vp_Sl post) args s 0 0 (fun _ => False)) (F0 m pc ls [.long v]) :=
  W.lret X.1.1 X.1.2.1 hr (fun t ht hW => ⟨v, rfl, hp, ht⟩) (fun q h => by cases h) hdg
theorem w_lret {post : Int64 → wS → Prop} {v : Int64} (X : wX p s m args c cc nL own g) (I : wI g α N A s.heap H locs σ) (hr : meth.sig.returnType = some .long) (hlk : meth.locks = false) (hp : post v σ) (hdg : decode cc pc = .ok (.lreturn, 1)) : W p l e R s m args below meth c H locs cells slots (MQ below (va_Ql post (wB g α N) A) args s cells slots A) (F0 m pc ls [.long v]) :=
  W.lret X.1.1 X.1.2.1 hr (fun t ht hW => ⟨⟨v, σ, rfl, hp, by show va_P _ _ _ t.heap; rw [ht]; exact I.1⟩, I.2.2.F ht⟩) I.2.2.2.2 hdg
theorem w_aretS {post : Option Nat → Prop} {r : Option Nat} {v : Value} {C : String} (hv : v = va_rf r) (X : wX p s m args c cc nL own g) (hr : meth.sig.returnType = some (.object C)) (hlk : meth.locks = false) (hp : post r) (hdg : decode cc pc = .ok (.areturn, 1)) : W p l e R s m args below meth c s.heap [] 0 0 (MQ below (va_Sq post) args s 0 0 (fun _ => False)) (F0 m pc ls [v]) := by
  subst hv
  exact W.aret X.1.1 X.1.2.1 hr (Or.inl ⟨C, rfl⟩) (va_rf_or r) (fun t ht hW => ⟨r, rfl, hp, ht⟩) (fun q h => by cases h) hdg
end WR
section WE
variable {l : Launch} {g : wG} {α : Nat → Nat} {N : Nat} {σ : wS}
/-- the entry of a method that reads alone -/
theorem w_enterS {y : MethodName} {rm : Room} {cc : ByteArray} {maxL : Nat} {ret : Option FieldType} {Qc : Array Value → State → Outcome → State → Prop} {av : List Value} (hy : plainName y.cls = true) (hlen : (lg_sl av).length ≤ maxL)
    (body : ∀ (p : Program) (e : Env) (s : State) (m : MethodId) (args : Array Value) (below : List Frame) (meth : Method) (c : Code), wX p s m args c cc maxL y.cls g → wI g α N (fun _ => True) s.heap s.heap [] σ → meth.sig.returnType = ret → meth.locks = false → ∀ ls : Array Slot, lv_has ls maxL (lv_args 0 av) → W p l e rm s m args below meth c s.heap [] 0 0 (MQ below Qc args s 0 0 (fun _ => False)) (F0 m 0 ls [])) :
    Met l y (wM y cc maxL ret) rm (wPc g α N σ av) Qc 0 0 (fun _ => False) := by
  refine Met.ofW (cc := cc) (maxL := maxL) (ret := ret) hy rfl ?_
  intro p e s m args below meth c s₁ B hml hv
  obtain ⟨rfl, hP, hK, hD⟩ := hv
  have hl := lv_entry av hlen
  rw [lg_entry_eq]
  exact body p e s m _ below meth c ⟨⟨B.exec, B.bytes, hml, findClass_of_methodNamed B.named, fun w h => atoms_spec (ws := wM y cc maxL ret) B.pre w (List.mem_cons_of_mem _ h)⟩, hK⟩ ⟨hP, hD, va_S.rf⟩ B.returns B.notSynchronized _ hl
/-- the entry of a method that writes -/
theorem w_enter {sz mc ms : Nat} {y : MethodName} {rm : Room} {cc : ByteArray} {maxL : Nat} {ret : Option FieldType} {Qc : Array Value → State → Outcome → State → Prop} {av : List Value} (hy : plainName y.cls = true) (hlen : (lg_sl av).length ≤ maxL)
    (body : ∀ (p : Program) (e : Env) (s : State) (m : MethodId) (args : Array Value) (below : List Frame) (meth : Method) (c : Code), s.heap.size = sz → wX p s m args c cc maxL y.cls g → wI g α N (wA α N sz) s.heap s.heap [] σ → meth.sig.returnType = ret → meth.locks = false → ∀ ls : Array Slot, lv_has ls maxL (lv_args 0 av) → W p l e rm s m args below meth c s.heap [] 0 0 (MQ below Qc args s mc ms (wA α N sz)) (F0 m 0 ls [])) :
    Met l y (wM y cc maxL ret) rm (wPs g α N sz σ av) Qc mc ms (wA α N sz) := by
  refine Met.ofW (cc := cc) (maxL := maxL) (ret := ret) hy rfl ?_
  intro p e s m args below meth c s₁ B hml hv
  obtain ⟨rfl, hsz, hP, hK, hD⟩ := hv
  have hl := lv_entry av hlen
  rw [lg_entry_eq]
  refine body p e s m _ below meth c hsz ⟨⟨B.exec, B.bytes, hml, findClass_of_methodNamed B.named, fun w h => atoms_spec (ws := wM y cc maxL ret) B.pre w (List.mem_cons_of_mem _ h)⟩, hK⟩ ⟨hP, ⟨hD.1, fun k q hk => ?_⟩, va_S.rf⟩ B.returns B.notSynchronized _ hl
  refine Or.inl ⟨k, ?_, ?_⟩
  · have := (List.getElem?_eq_some_iff.mp hk).1
    simpa [wld] using this
  · have hkN : k < N := by
      have := (List.getElem?_eq_some_iff.mp hk).1
      simpa [wld] using this
    rw [wld_get hkN] at hk
    cases hk
    rfl
end WE
section WCALL
variable {p : Program} {l : Launch} {e : Env} {R : Room} {s : State} {m : MethodId} {args : Array Value} {below : List Frame} {meth : Method} {c : Code} {H : Heap} {locs : List Loc} {cells slots : Nat} {Q : State → Prop}
variable {pc : Nat} {ls : Array Slot} {rest st0 : List Value} {g : wG} {α : Nat → Nat} {N : Nat} {A : Nat → Prop} {H0 : Heap} {σ : wS} {own : String} {cc : ByteArray} {nL : Nat}
variable {y : MethodName} {bytes : ByteArray} {maxL n index : Nat} {ret : Option FieldType} {rm : Room} {As : List Value} {C : String} {T : u_T} {ci Nf : Nat} {fs : List Value}
/-- a virtual call that only reads; what it says of the state -/
theorem w_runVS (X : wX p s m args c cc nL own g) (I : wI g α N A H0 H locs σ) {Qc : Array Value → State → Outcome → State → Prop} (i : Nat) (hi : i < N) (he : wc g α i (σ.1 i) (σ.2.1 i) (σ.2.2 i) = .inr (ci, fs)) (hc : vwCl[ci]? = some (C, T, Nf)) (hM : Met l y (wM y bytes maxL ret) rm (wPc g α N σ (.ref (α i) :: As)) Qc 0 0 (fun _ => False)) (hG : GoodIn lw_all (wsV own index C y (wM y bytes maxL ret))) (hrc : rm.cells = 0) (hrs : rm.slots = 0)
    (hd : y.cls = C ∧ y.cls ≠ "java/lang/invoke/MethodHandle" ∧ y.cls ≠ "java/lang/invoke/VarHandle" ∧ (parseMethodDescriptor y.desc).map (fun d => d.parameters.length) = some n) (hn : As.length = n) (hR : rm.frames + 1 ≤ R.frames ∧ 8 + (maxL + 11) + rm.locals ≤ R.locals) (hls : ls.size = nL) (hst : st0 = As.reverse ++ .ref (α i) :: rest) (hW : (rest.map fun v => v.category).sum ≤ 8) (hcs : cells ≤ R.cells ∧ slots ≤ R.slots) (hdg : decode cc pc = .ok (.invokevirtual index, 3)) :
    CallRun p l e R s m args below meth c H locs cells slots 0 0 (F0 m pc ls st0) rest (Qc (Value.ref (α i) :: As).toArray) (fun _ => False) :=
  va_Run.run (va_runV (g := F0 m pc ls st0) X.1 hM (cwV n X.1.2.2.2.2 hG rfl hrc hrs hd hR) ⟨wPc_blind, va_recv X.2 I.1 hc ((wld_get hi).trans (by rw [he])), fun U hU hW => ⟨rfl, by rw [hU]; exact I.1, va_K.moved hW.alike X.2, I.2.1.weaken (fun _ _ _ _ => trivial)⟩⟩ rfl hn hls hst (lv_room hW) hdg hcs)
theorem w_vSi {post : Int32 → Prop} (X : wX p s m args c cc nL own g) (I : wI g α N A H0 H locs σ) (i : Nat) (hi : i < N) (he : wc g α i (σ.1 i) (σ.2.1 i) (σ.2.2 i) = .inr (ci, fs)) (hc : vwCl[ci]? = some (C, T, Nf)) (hM : Met l y (wM y bytes maxL ret) rm (wPc g α N σ (.ref (α i) :: As)) (vp_Si post) 0 0 (fun _ => False)) (hG : GoodIn lw_all (wsV own index C y (wM y bytes maxL ret))) (hrc : rm.cells = 0) (hrs : rm.slots = 0)
    (hd : y.cls = C ∧ y.cls ≠ "java/lang/invoke/MethodHandle" ∧ y.cls ≠ "java/lang/invoke/VarHandle" ∧ (parseMethodDescriptor y.desc).map (fun d => d.parameters.length) = some n) (hn : As.length = n) (hR : rm.frames + 1 ≤ R.frames ∧ 8 + (maxL + 11) + rm.locals ≤ R.locals) (hls : ls.size = nL) (hst : st0 = As.reverse ++ .ref (α i) :: rest) (hW : (rest.map fun v => v.category).sum ≤ 8) (hcs : cells ≤ R.cells ∧ slots ≤ R.slots) (hdg : decode cc pc = .ok (.invokevirtual index, 3))
    (kk : ∀ r : Int32, post r → W p l e R s m args below meth c H locs cells slots Q (F0 m (pc + 3) ls (.int r :: rest))) : W p l e R s m args below meth c H locs cells slots Q (F0 m pc ls st0) :=
  vp_callSi (w_runVS X I i hi he hc hM hG hrc hrs hd hn hR hls hst hW hcs hdg) kk
theorem w_vSq {post : Option Nat → Prop} (X : wX p s m args c cc nL own g) (I : wI g α N A H0 H locs σ) (i : Nat) (hi : i < N) (he : wc g α i (σ.1 i) (σ.2.1 i) (σ.2.2 i) = .inr (ci, fs)) (hc : vwCl[ci]? = some (C, T, Nf)) (hM : Met l y (wM y bytes maxL ret) rm (wPc g α N σ (.ref (α i) :: As)) (va_Sq post) 0 0 (fun _ => False)) (hG : GoodIn lw_all (wsV own index C y (wM y bytes maxL ret))) (hrc : rm.cells = 0) (hrs : rm.slots = 0)
    (hd : y.cls = C ∧ y.cls ≠ "java/lang/invoke/MethodHandle" ∧ y.cls ≠ "java/lang/invoke/VarHandle" ∧ (parseMethodDescriptor y.desc).map (fun d => d.parameters.length) = some n) (hn : As.length = n) (hR : rm.frames + 1 ≤ R.frames ∧ 8 + (maxL + 11) + rm.locals ≤ R.locals) (hls : ls.size = nL) (hst : st0 = As.reverse ++ .ref (α i) :: rest) (hW : (rest.map fun v => v.category).sum ≤ 8) (hcs : cells ≤ R.cells ∧ slots ≤ R.slots) (hdg : decode cc pc = .ok (.invokevirtual index, 3))
    (kk : ∀ r : Option Nat, post r → W p l e R s m args below meth c H locs cells slots Q (F0 m (pc + 3) ls (va_rf r :: rest))) : W p l e R s m args below meth c H locs cells slots Q (F0 m pc ls st0) :=
  va_csq (w_runVS X I i hi he hc hM hG hrc hrs hd hn hR hls hst hW hcs hdg) kk
/-- a static call that only reads -/
theorem w_sSi {post : Int32 → Prop} (X : wX p s m args c cc nL own g) (I : wI g α N A H0 H locs σ) (hM : Met l y (wM y bytes maxL ret) rm (wPc g α N σ As) (vp_Si post) 0 0 (fun _ => False)) (hG : GoodIn lw_all (va_wsS own index y (wM y bytes maxL ret))) (hrc : rm.cells = 0) (hrs : rm.slots = 0)
    (hd : y.cls ≠ "java/lang/invoke/MethodHandle" ∧ y.cls ≠ "java/lang/invoke/VarHandle" ∧ (parseMethodDescriptor y.desc).map (fun d => d.parameters.length) = some n) (hn : As.length = n) (hR : rm.frames + 1 ≤ R.frames ∧ 8 + (maxL + 11) + rm.locals ≤ R.locals) (hls : ls.size = nL) (hst : st0 = As.reverse ++ rest) (hW : (rest.map fun v => v.category).sum ≤ 8) (hcs : cells ≤ R.cells ∧ slots ≤ R.slots) (hdg : decode cc pc = .ok (.invokestatic index, 3))
    (kk : ∀ r : Int32, post r → W p l e R s m args below meth c H locs cells slots Q (F0 m (pc + 3) ls (.int r :: rest))) : W p l e R s m args below meth c H locs cells slots Q (F0 m pc ls st0) :=
  vp_callSi (va_Run.run (va_runS (g := F0 m pc ls st0) X.1 hM (va_cwS n X.1.2.2.2.2 hG rfl hrc hrs hd hR) ⟨wPc_blind, fun U hU hW => ⟨rfl, by rw [hU]; exact I.1, va_K.moved hW.alike X.2, I.2.1.weaken (fun _ _ _ _ => trivial)⟩⟩ rfl hn hls hst (lv_room hW) hdg hcs)) kk
theorem w_runV (X : wX p s m args c cc nL own g) (I : wI g α N A H0 H locs σ) {Qc : Array Value → State → Outcome → State → Prop} (i : Nat) (hi : i < N) (he : wc g α i (σ.1 i) (σ.2.1 i) (σ.2.2 i) = .inr (ci, fs)) (hc : vwCl[ci]? = some (C, T, Nf)) (hM : Met l y (wM y bytes maxL ret) rm (wPs g α N H.size σ (.ref (α i) :: As)) Qc 0 0 (wA α N H.size)) (hG : GoodIn lw_all (wsV own index C y (wM y bytes maxL ret))) (hrc : rm.cells = 0) (hrs : rm.slots = 0)
    (hd : y.cls = C ∧ y.cls ≠ "java/lang/invoke/MethodHandle" ∧ y.cls ≠ "java/lang/invoke/VarHandle" ∧ (parseMethodDescriptor y.desc).map (fun d => d.parameters.length) = some n) (hn : As.length = n) (hR : rm.frames + 1 ≤ R.frames ∧ 8 + (maxL + 11) + rm.locals ≤ R.locals) (hls : ls.size = nL) (hst : st0 = As.reverse ++ .ref (α i) :: rest) (hW : (rest.map fun v => v.category).sum ≤ 8) (hcs : cells ≤ R.cells ∧ slots ≤ R.slots) (hdg : decode cc pc = .ok (.invokevirtual index, 3)) :
    va_Run p l e R s m args below meth c H locs cells slots 0 0 (F0 m pc ls st0) rest (Qc (Value.ref (α i) :: As).toArray) (wA α N H.size) :=
  va_runV (g := F0 m pc ls st0) X.1 hM (cwV n X.1.2.2.2.2 hG rfl hrc hrs hd hR) ⟨wPs_blind, va_recv X.2 I.1 hc ((wld_get hi).trans (by rw [he])), fun U hU hW => ⟨rfl, by rw [hU], by rw [hU]; exact I.1, va_K.moved hW.alike X.2, I.2.1.weaken (fun _ _ _ _ => trivial)⟩⟩ rfl hn hls hst (lv_room hW) hdg hcs
/-- the callee's cells are the caller's -/
theorem wA_in (I : wI g α N A H0 H locs σ) (hA : ∀ q, H0.size ≤ q → A q) (q : Nat) (h : wA α N H.size q) : A q := by
  rcases h with ⟨i, hi, rfl⟩ | h
  · exact I.2.1.2 i _ (wld_get hi)
  · exact hA q (Nat.le_trans I.2.2.1 h)
theorem wD_same {σ' : wS} (h : va_D A (wld g α σ N)) : va_D A (wld g α σ' N) := by
  have key : ∀ (k : Nat) (q : Nat × va_E), (wld g α σ' N)[k]? = some q → ∃ q0, (wld g α σ N)[k]? = some q0 ∧ q0.1 = q.1 := by
    intro k q hk
    have hkN : k < N := by
      have := (List.getElem?_eq_some_iff.mp hk).1
      simpa [wld] using this
    rw [wld_get hkN] at hk
    cases hk
    exact ⟨_, wld_get hkN, rfl⟩
  refine ⟨fun i j x y hi hj hxy => ?_, fun k q hk => ?_⟩
  · obtain ⟨x0, h1, h2⟩ := key i x hi
    obtain ⟨y0, h3, h4⟩ := key j y hj
    exact h.1 i j x0 y0 h1 h3 (h2.trans (hxy.trans h4.symm))
  · obtain ⟨q0, h1, h2⟩ := key k q hk
    rw [← h2]
    exact h.2 k q0 h1
theorem w_vi {post : Int32 → wS → Prop} (X : wX p s m args c cc nL own g) (I : wI g α N A H0 H locs σ) (hA : ∀ q, H0.size ≤ q → A q) (i : Nat) (hi : i < N) (he : wc g α i (σ.1 i) (σ.2.1 i) (σ.2.2 i) = .inr (ci, fs)) (hc : vwCl[ci]? = some (C, T, Nf)) (hM : Met l y (wM y bytes maxL ret) rm (wPs g α N H.size σ (.ref (α i) :: As)) (va_Qi post (wB g α N) (wA α N H.size)) 0 0 (wA α N H.size)) (hG : GoodIn lw_all (wsV own index C y (wM y bytes maxL ret))) (hrc : rm.cells = 0) (hrs : rm.slots = 0)
    (hd : y.cls = C ∧ y.cls ≠ "java/lang/invoke/MethodHandle" ∧ y.cls ≠ "java/lang/invoke/VarHandle" ∧ (parseMethodDescriptor y.desc).map (fun d => d.parameters.length) = some n) (hn : As.length = n) (hR : rm.frames + 1 ≤ R.frames ∧ 8 + (maxL + 11) + rm.locals ≤ R.locals) (hls : ls.size = nL) (hst : st0 = As.reverse ++ .ref (α i) :: rest) (hW : (rest.map fun v => v.category).sum ≤ 8) (hcs : cells ≤ R.cells ∧ slots ≤ R.slots) (hdg : decode cc pc = .ok (.invokevirtual index, 3))
    (kk : ∀ (r : Int32) (σ' : wS) (H1 : Heap) (locs1 : List Loc), post r σ' → wI g α N A H0 H1 locs1 σ' → W p l e R s m args below meth c H1 locs1 cells slots Q (F0 m (pc + 3) ls (.int r :: rest))) : W p l e R s m args below meth c H locs cells slots Q (F0 m pc ls st0) :=
  va_calli (w_runV X I i hi he hc hM hG hrc hrs hd hn hR hls hst hW hcs hdg) I.2.2 (fun q _ h => wA_in I hA q h) (fun q h => wA_in I hA q h) (fun r u t H1 locs1 ht _ hp hB _ _ hS => kk r u H1 locs1 hp ⟨by rw [← ht]; exact hB, wD_same I.2.1, hS⟩)
theorem w_vl {post : Int64 → wS → Prop} (X : wX p s m args c cc nL own g) (I : wI g α N A H0 H locs σ) (hA : ∀ q, H0.size ≤ q → A q) (i : Nat) (hi : i < N) (he : wc g α i (σ.1 i) (σ.2.1 i) (σ.2.2 i) = .inr (ci, fs)) (hc : vwCl[ci]? = some (C, T, Nf)) (hM : Met l y (wM y bytes maxL ret) rm (wPs g α N H.size σ (.ref (α i) :: As)) (va_Ql post (wB g α N) (wA α N H.size)) 0 0 (wA α N H.size)) (hG : GoodIn lw_all (wsV own index C y (wM y bytes maxL ret))) (hrc : rm.cells = 0) (hrs : rm.slots = 0)
    (hd : y.cls = C ∧ y.cls ≠ "java/lang/invoke/MethodHandle" ∧ y.cls ≠ "java/lang/invoke/VarHandle" ∧ (parseMethodDescriptor y.desc).map (fun d => d.parameters.length) = some n) (hn : As.length = n) (hR : rm.frames + 1 ≤ R.frames ∧ 8 + (maxL + 11) + rm.locals ≤ R.locals) (hls : ls.size = nL) (hst : st0 = As.reverse ++ .ref (α i) :: rest) (hW : (rest.map fun v => v.category).sum ≤ 8) (hcs : cells ≤ R.cells ∧ slots ≤ R.slots) (hdg : decode cc pc = .ok (.invokevirtual index, 3))
    (kk : ∀ (r : Int64) (σ' : wS) (H1 : Heap) (locs1 : List Loc), post r σ' → wI g α N A H0 H1 locs1 σ' → W p l e R s m args below meth c H1 locs1 cells slots Q (F0 m (pc + 3) ls (.long r :: rest))) : W p l e R s m args below meth c H locs cells slots Q (F0 m pc ls st0) :=
  va_calll (w_runV X I i hi he hc hM hG hrc hrs hd hn hR hls hst hW hcs hdg) I.2.2 (fun q _ h => wA_in I hA q h) (fun q h => wA_in I hA q h) (fun r u t H1 locs1 ht _ hp hB _ _ hS => kk r u H1 locs1 hp ⟨by rw [← ht]; exact hB, wD_same I.2.1, hS⟩)
theorem w_vv {post : wS → Prop} (X : wX p s m args c cc nL own g) (I : wI g α N A H0 H locs σ) (hA : ∀ q, H0.size ≤ q → A q) (i : Nat) (hi : i < N) (he : wc g α i (σ.1 i) (σ.2.1 i) (σ.2.2 i) = .inr (ci, fs)) (hc : vwCl[ci]? = some (C, T, Nf)) (hM : Met l y (wM y bytes maxL ret) rm (wPs g α N H.size σ (.ref (α i) :: As)) (va_Qv post (wB g α N) (wA α N H.size)) 0 0 (wA α N H.size)) (hG : GoodIn lw_all (wsV own index C y (wM y bytes maxL ret))) (hrc : rm.cells = 0) (hrs : rm.slots = 0)
    (hd : y.cls = C ∧ y.cls ≠ "java/lang/invoke/MethodHandle" ∧ y.cls ≠ "java/lang/invoke/VarHandle" ∧ (parseMethodDescriptor y.desc).map (fun d => d.parameters.length) = some n) (hn : As.length = n) (hR : rm.frames + 1 ≤ R.frames ∧ 8 + (maxL + 11) + rm.locals ≤ R.locals) (hls : ls.size = nL) (hst : st0 = As.reverse ++ .ref (α i) :: rest) (hW : (rest.map fun v => v.category).sum ≤ 8) (hcs : cells ≤ R.cells ∧ slots ≤ R.slots) (hdg : decode cc pc = .ok (.invokevirtual index, 3))
    (kk : ∀ (σ' : wS) (H1 : Heap) (locs1 : List Loc), post σ' → wI g α N A H0 H1 locs1 σ' → W p l e R s m args below meth c H1 locs1 cells slots Q (F0 m (pc + 3) ls rest)) : W p l e R s m args below meth c H locs cells slots Q (F0 m pc ls st0) :=
  va_callv (w_runV X I i hi he hc hM hG hrc hrs hd hn hR hls hst hW hcs hdg) I.2.2 (fun q _ h => wA_in I hA q h) (fun q h => wA_in I hA q h) (fun u t H1 locs1 ht _ hp hB _ _ hS => kk u H1 locs1 hp ⟨by rw [← ht]; exact hB, wD_same I.2.1, hS⟩)
end WCALL
end
section
/-! one row for each field: what getfield gives, what putfield does -/
section WF
variable {p : Program} {l : Launch} {e : Env} {R : Room} {s : State} {m : MethodId} {args : Array Value} {below : List Frame} {meth : Method} {c : Code} {H : Heap} {locs : List Loc} {cells slots : Nat} {Q : State → Prop}
variable {pc : Nat} {ls : Array Slot} {rest : List Value} {g : wG} {α : Nat → Nat} {N : Nat} {A : Nat → Prop} {H0 : Heap} {σ : wS} {own : String} {cc : ByteArray} {nL index : Nat}
theorem fg0_0 (X : wX p s m args c cc nL own g) (I : wI g α N A H0 H locs σ) (hN : 7 < N) (hl : Cond.fieldLink own index "RockRoad$Draft" "bytes" "[I" ∈ lw_all) (hdg : decode cc pc = .ok (.getfield index, 3)) (kk : W p l e R s m args below meth c H locs cells slots Q (F0 m (pc + 3) ls (.ref (α 8) :: rest))) : W p l e R s m args below meth c H locs cells slots Q (F0 m pc ls (.ref (α 7) :: rest)) :=
  w_get X I 7 hN (ci := 0) (k := 0) rfl rfl inX0 (by decide) hl rfl hdg kk
theorem fg0_1 (X : wX p s m args c cc nL own g) (I : wI g α N A H0 H locs σ) (hN : 7 < N) (hl : Cond.fieldLink own index "RockRoad$Draft" "terms" "[I" ∈ lw_all) (hdg : decode cc pc = .ok (.getfield index, 3)) (kk : W p l e R s m args below meth c H locs cells slots Q (F0 m (pc + 3) ls (.ref (α 9) :: rest))) : W p l e R s m args below meth c H locs cells slots Q (F0 m pc ls (.ref (α 7) :: rest)) :=
  w_get X I 7 hN (ci := 0) (k := 1) rfl rfl inX0 (by decide) hl rfl hdg kk
theorem fg0_2 (X : wX p s m args c cc nL own g) (I : wI g α N A H0 H locs σ) (hN : 7 < N) (hl : Cond.fieldLink own index "RockRoad$Draft" "length" "I" ∈ lw_all) (hdg : decode cc pc = .ok (.getfield index, 3)) (kk : W p l e R s m args below meth c H locs cells slots Q (F0 m (pc + 3) ls (.int (σ.1 7 2) :: rest))) : W p l e R s m args below meth c H locs cells slots Q (F0 m pc ls (.ref (α 7) :: rest)) :=
  w_get X I 7 hN (ci := 0) (k := 2) rfl rfl inX0 (by decide) hl rfl hdg kk
theorem fp0_2 (X : wX p s m args c cc nL own g) (I : wI g α N A H0 H locs σ) (hN : 7 < N) (hl : Cond.fieldLink own index "RockRoad$Draft" "length" "I" ∈ lw_all) {x : Int32} (hdg : decode cc pc = .ok (.putfield index, 3)) (kk : ∀ (H1 : Heap) (locs1 : List Loc), wI g α N A H0 H1 locs1 (wu σ 7 2 x) → W p l e R s m args below meth c H1 locs1 cells slots Q (F0 m (pc + 3) ls rest)) : W p l e R s m args below meth c H locs cells slots Q (F0 m pc ls (.int x :: .ref (α 7) :: rest)) :=
  w_put X I 7 hN (ci := 0) (k := 2) rfl rfl rfl inX0 tyX0 tyX0_ok nmX0 (by decide) hl rfl (by decide +kernel) (Nat.le_of_ble_eq_true rfl) hdg kk
theorem fg1_0 (X : wX p s m args c cc nL own g) (I : wI g α N A H0 H locs σ) (hN : 2 < N) (hl : Cond.fieldLink own index "RockRoad$Layers" "tons" "[I" ∈ lw_all) (hdg : decode cc pc = .ok (.getfield index, 3)) (kk : W p l e R s m args below meth c H locs cells slots Q (F0 m (pc + 3) ls (.ref (α 3) :: rest))) : W p l e R s m args below meth c H locs cells slots Q (F0 m pc ls (.ref (α 2) :: rest)) :=
  w_get X I 2 hN (ci := 1) (k := 0) rfl rfl inX1 (by decide) hl rfl hdg kk
theorem fg1_1 (X : wX p s m args c cc nL own g) (I : wI g α N A H0 H locs σ) (hN : 2 < N) (hl : Cond.fieldLink own index "RockRoad$Layers" "worths" "[I" ∈ lw_all) (hdg : decode cc pc = .ok (.getfield index, 3)) (kk : W p l e R s m args below meth c H locs cells slots Q (F0 m (pc + 3) ls (.ref (α 4) :: rest))) : W p l e R s m args below meth c H locs cells slots Q (F0 m pc ls (.ref (α 2) :: rest)) :=
  w_get X I 2 hN (ci := 1) (k := 1) rfl rfl inX1 (by decide) hl rfl hdg kk
theorem fg1_2 (X : wX p s m args c cc nL own g) (I : wI g α N A H0 H locs σ) (hN : 2 < N) (hl : Cond.fieldLink own index "RockRoad$Layers" "size" "I" ∈ lw_all) (hdg : decode cc pc = .ok (.getfield index, 3)) (kk : W p l e R s m args below meth c H locs cells slots Q (F0 m (pc + 3) ls (.int (σ.1 2 2) :: rest))) : W p l e R s m args below meth c H locs cells slots Q (F0 m pc ls (.ref (α 2) :: rest)) :=
  w_get X I 2 hN (ci := 1) (k := 2) rfl rfl inX1 (by decide) hl rfl hdg kk
theorem fp1_2 (X : wX p s m args c cc nL own g) (I : wI g α N A H0 H locs σ) (hN : 2 < N) (hl : Cond.fieldLink own index "RockRoad$Layers" "size" "I" ∈ lw_all) {x : Int32} (hdg : decode cc pc = .ok (.putfield index, 3)) (kk : ∀ (H1 : Heap) (locs1 : List Loc), wI g α N A H0 H1 locs1 (wu σ 2 2 x) → W p l e R s m args below meth c H1 locs1 cells slots Q (F0 m (pc + 3) ls rest)) : W p l e R s m args below meth c H locs cells slots Q (F0 m pc ls (.int x :: .ref (α 2) :: rest)) :=
  w_put X I 2 hN (ci := 1) (k := 2) rfl rfl rfl inX1 tyX1 tyX1_ok nmX1 (by decide) hl rfl (by decide +kernel) (Nat.le_of_ble_eq_true rfl) hdg kk
theorem fg2_0 (X : wX p s m args c cc nL own g) (I : wI g α N A H0 H locs σ) (hN : 10 < N) (hl : Cond.fieldLink own index "RockRoad$Letters" "queues" "[I" ∈ lw_all) (hdg : decode cc pc = .ok (.getfield index, 3)) (kk : W p l e R s m args below meth c H locs cells slots Q (F0 m (pc + 3) ls (.ref (α 11) :: rest))) : W p l e R s m args below meth c H locs cells slots Q (F0 m pc ls (.ref (α 10) :: rest)) :=
  w_get X I 10 hN (ci := 2) (k := 0) rfl rfl inX2 (by decide) hl rfl hdg kk
theorem fg2_1 (X : wX p s m args c cc nL own g) (I : wI g α N A H0 H locs σ) (hN : 10 < N) (hl : Cond.fieldLink own index "RockRoad$Letters" "dug" "[I" ∈ lw_all) (hdg : decode cc pc = .ok (.getfield index, 3)) (kk : W p l e R s m args below meth c H locs cells slots Q (F0 m (pc + 3) ls (.ref (α 12) :: rest))) : W p l e R s m args below meth c H locs cells slots Q (F0 m pc ls (.ref (α 10) :: rest)) :=
  w_get X I 10 hN (ci := 2) (k := 1) rfl rfl inX2 (by decide) hl rfl hdg kk
theorem fg2_2 (X : wX p s m args c cc nL own g) (I : wI g α N A H0 H locs σ) (hN : 10 < N) (hl : Cond.fieldLink own index "RockRoad$Letters" "comings" "[I" ∈ lw_all) (hdg : decode cc pc = .ok (.getfield index, 3)) (kk : W p l e R s m args below meth c H locs cells slots Q (F0 m (pc + 3) ls (.ref (α 13) :: rest))) : W p l e R s m args below meth c H locs cells slots Q (F0 m pc ls (.ref (α 10) :: rest)) :=
  w_get X I 10 hN (ci := 2) (k := 2) rfl rfl inX2 (by decide) hl rfl hdg kk
theorem fg3_0 (X : wX p s m args c cc nL own g) (I : wI g α N A H0 H locs σ) (i : Nat) (hN : (32 + 4 * i) < N) (hl : Cond.fieldLink own index "RockRoad$Ship" "number" "I" ∈ lw_all) (hdg : decode cc pc = .ok (.getfield index, 3)) (kk : W p l e R s m args below meth c H locs cells slots Q (F0 m (pc + 3) ls (.int (σ.1 (32 + 4 * i) 0) :: rest))) : W p l e R s m args below meth c H locs cells slots Q (F0 m pc ls (.ref (α (32 + 4 * i)) :: rest)) :=
  w_get X I (32 + 4 * i) hN (ci := 3) (k := 0) (wc_ship g α i _ _ _) rfl inX3 (by decide) hl rfl hdg kk
theorem fg3_1 (X : wX p s m args c cc nL own g) (I : wI g α N A H0 H locs σ) (i : Nat) (hN : (32 + 4 * i) < N) (hl : Cond.fieldLink own index "RockRoad$Ship" "kind" "I" ∈ lw_all) (hdg : decode cc pc = .ok (.getfield index, 3)) (kk : W p l e R s m args below meth c H locs cells slots Q (F0 m (pc + 3) ls (.int (σ.1 (32 + 4 * i) 1) :: rest))) : W p l e R s m args below meth c H locs cells slots Q (F0 m pc ls (.ref (α (32 + 4 * i)) :: rest)) :=
  w_get X I (32 + 4 * i) hN (ci := 3) (k := 1) (wc_ship g α i _ _ _) rfl inX3 (by decide) hl rfl hdg kk
theorem fg3_2 (X : wX p s m args c cc nL own g) (I : wI g α N A H0 H locs σ) (i : Nat) (hN : (32 + 4 * i) < N) (hl : Cond.fieldLink own index "RockRoad$Ship" "arrival" "I" ∈ lw_all) (hdg : decode cc pc = .ok (.getfield index, 3)) (kk : W p l e R s m args below meth c H locs cells slots Q (F0 m (pc + 3) ls (.int (σ.1 (32 + 4 * i) 2) :: rest))) : W p l e R s m args below meth c H locs cells slots Q (F0 m pc ls (.ref (α (32 + 4 * i)) :: rest)) :=
  w_get X I (32 + 4 * i) hN (ci := 3) (k := 2) (wc_ship g α i _ _ _) rfl inX3 (by decide) hl rfl hdg kk
theorem fg3_3 (X : wX p s m args c cc nL own g) (I : wI g α N A H0 H locs σ) (i : Nat) (hN : (32 + 4 * i) < N) (hl : Cond.fieldLink own index "RockRoad$Ship" "cargo" "[I" ∈ lw_all) (hdg : decode cc pc = .ok (.getfield index, 3)) (kk : W p l e R s m args below meth c H locs cells slots Q (F0 m (pc + 3) ls (.ref (α (33 + 4 * i)) :: rest))) : W p l e R s m args below meth c H locs cells slots Q (F0 m pc ls (.ref (α (32 + 4 * i)) :: rest)) :=
  w_get X I (32 + 4 * i) hN (ci := 3) (k := 3) (wc_ship g α i _ _ _) rfl inX3 (by decide) hl rfl hdg kk
theorem fg3_4 (X : wX p s m args c cc nL own g) (I : wI g α N A H0 H locs σ) (i : Nat) (hN : (32 + 4 * i) < N) (hl : Cond.fieldLink own index "RockRoad$Ship" "terms" "[I" ∈ lw_all) (hdg : decode cc pc = .ok (.getfield index, 3)) (kk : W p l e R s m args below meth c H locs cells slots Q (F0 m (pc + 3) ls (.ref (α (34 + 4 * i)) :: rest))) : W p l e R s m args below meth c H locs cells slots Q (F0 m pc ls (.ref (α (32 + 4 * i)) :: rest)) :=
  w_get X I (32 + 4 * i) hN (ci := 3) (k := 4) (wc_ship g α i _ _ _) rfl inX3 (by decide) hl rfl hdg kk
theorem fg3_5 (X : wX p s m args c cc nL own g) (I : wI g α N A H0 H locs σ) (i : Nat) (hN : (32 + 4 * i) < N) (hl : Cond.fieldLink own index "RockRoad$Ship" "log" "[I" ∈ lw_all) (hdg : decode cc pc = .ok (.getfield index, 3)) (kk : W p l e R s m args below meth c H locs cells slots Q (F0 m (pc + 3) ls (.ref (α (35 + 4 * i)) :: rest))) : W p l e R s m args below meth c H locs cells slots Q (F0 m pc ls (.ref (α (32 + 4 * i)) :: rest)) :=
  w_get X I (32 + 4 * i) hN (ci := 3) (k := 5) (wc_ship g α i _ _ _) rfl inX3 (by decide) hl rfl hdg kk
theorem fg3_6 (X : wX p s m args c cc nL own g) (I : wI g α N A H0 H locs σ) (i : Nat) (hN : (32 + 4 * i) < N) (hl : Cond.fieldLink own index "RockRoad$Ship" "wants" "I" ∈ lw_all) (hdg : decode cc pc = .ok (.getfield index, 3)) (kk : W p l e R s m args below meth c H locs cells slots Q (F0 m (pc + 3) ls (.int (σ.1 (32 + 4 * i) 6) :: rest))) : W p l e R s m args below meth c H locs cells slots Q (F0 m pc ls (.ref (α (32 + 4 * i)) :: rest)) :=
  w_get X I (32 + 4 * i) hN (ci := 3) (k := 6) (wc_ship g α i _ _ _) rfl inX3 (by decide) hl rfl hdg kk
theorem fp3_6 (X : wX p s m args c cc nL own g) (I : wI g α N A H0 H locs σ) (i : Nat) (hN : (32 + 4 * i) < N) (hl : Cond.fieldLink own index "RockRoad$Ship" "wants" "I" ∈ lw_all) {x : Int32} (hdg : decode cc pc = .ok (.putfield index, 3)) (kk : ∀ (H1 : Heap) (locs1 : List Loc), wI g α N A H0 H1 locs1 (wu σ (32 + 4 * i) 6 x) → W p l e R s m args below meth c H1 locs1 cells slots Q (F0 m (pc + 3) ls rest)) : W p l e R s m args below meth c H locs cells slots Q (F0 m pc ls (.int x :: .ref (α (32 + 4 * i)) :: rest)) :=
  w_put X I (32 + 4 * i) hN (ci := 3) (k := 6) (wc_ship g α i _ _ _) ((wc_ship g α i _ _ _).trans rfl) rfl inX3 tyX3 tyX3_ok nmX3 (by decide) hl rfl (by decide +kernel) (Nat.le_of_ble_eq_true rfl) hdg kk
theorem fg3_7 (X : wX p s m args c cc nL own g) (I : wI g α N A H0 H locs σ) (i : Nat) (hN : (32 + 4 * i) < N) (hl : Cond.fieldLink own index "RockRoad$Ship" "has" "I" ∈ lw_all) (hdg : decode cc pc = .ok (.getfield index, 3)) (kk : W p l e R s m args below meth c H locs cells slots Q (F0 m (pc + 3) ls (.int (σ.1 (32 + 4 * i) 7) :: rest))) : W p l e R s m args below meth c H locs cells slots Q (F0 m pc ls (.ref (α (32 + 4 * i)) :: rest)) :=
  w_get X I (32 + 4 * i) hN (ci := 3) (k := 7) (wc_ship g α i _ _ _) rfl inX3 (by decide) hl rfl hdg kk
theorem fp3_7 (X : wX p s m args c cc nL own g) (I : wI g α N A H0 H locs σ) (i : Nat) (hN : (32 + 4 * i) < N) (hl : Cond.fieldLink own index "RockRoad$Ship" "has" "I" ∈ lw_all) {x : Int32} (hdg : decode cc pc = .ok (.putfield index, 3)) (kk : ∀ (H1 : Heap) (locs1 : List Loc), wI g α N A H0 H1 locs1 (wu σ (32 + 4 * i) 7 x) → W p l e R s m args below meth c H1 locs1 cells slots Q (F0 m (pc + 3) ls rest)) : W p l e R s m args below meth c H locs cells slots Q (F0 m pc ls (.int x :: .ref (α (32 + 4 * i)) :: rest)) :=
  w_put X I (32 + 4 * i) hN (ci := 3) (k := 7) (wc_ship g α i _ _ _) ((wc_ship g α i _ _ _).trans rfl) rfl inX3 tyX3 tyX3_ok nmX3 (by decide) hl rfl (by decide +kernel) (Nat.le_of_ble_eq_true rfl) hdg kk
theorem fg3_8 (X : wX p s m args c cc nL own g) (I : wI g α N A H0 H locs σ) (i : Nat) (hN : (32 + 4 * i) < N) (hl : Cond.fieldLink own index "RockRoad$Ship" "water" "I" ∈ lw_all) (hdg : decode cc pc = .ok (.getfield index, 3)) (kk : W p l e R s m args below meth c H locs cells slots Q (F0 m (pc + 3) ls (.int (σ.1 (32 + 4 * i) 8) :: rest))) : W p l e R s m args below meth c H locs cells slots Q (F0 m pc ls (.ref (α (32 + 4 * i)) :: rest)) :=
  w_get X I (32 + 4 * i) hN (ci := 3) (k := 8) (wc_ship g α i _ _ _) rfl inX3 (by decide) hl rfl hdg kk
theorem fp3_8 (X : wX p s m args c cc nL own g) (I : wI g α N A H0 H locs σ) (i : Nat) (hN : (32 + 4 * i) < N) (hl : Cond.fieldLink own index "RockRoad$Ship" "water" "I" ∈ lw_all) {x : Int32} (hdg : decode cc pc = .ok (.putfield index, 3)) (kk : ∀ (H1 : Heap) (locs1 : List Loc), wI g α N A H0 H1 locs1 (wu σ (32 + 4 * i) 8 x) → W p l e R s m args below meth c H1 locs1 cells slots Q (F0 m (pc + 3) ls rest)) : W p l e R s m args below meth c H locs cells slots Q (F0 m pc ls (.int x :: .ref (α (32 + 4 * i)) :: rest)) :=
  w_put X I (32 + 4 * i) hN (ci := 3) (k := 8) (wc_ship g α i _ _ _) ((wc_ship g α i _ _ _).trans rfl) rfl inX3 tyX3 tyX3_ok nmX3 (by decide) hl rfl (by decide +kernel) (Nat.le_of_ble_eq_true rfl) hdg kk
theorem fg3_9 (X : wX p s m args c cc nL own g) (I : wI g α N A H0 H locs σ) (i : Nat) (hN : (32 + 4 * i) < N) (hl : Cond.fieldLink own index "RockRoad$Ship" "loadedOn" "I" ∈ lw_all) (hdg : decode cc pc = .ok (.getfield index, 3)) (kk : W p l e R s m args below meth c H locs cells slots Q (F0 m (pc + 3) ls (.int (σ.1 (32 + 4 * i) 9) :: rest))) : W p l e R s m args below meth c H locs cells slots Q (F0 m pc ls (.ref (α (32 + 4 * i)) :: rest)) :=
  w_get X I (32 + 4 * i) hN (ci := 3) (k := 9) (wc_ship g α i _ _ _) rfl inX3 (by decide) hl rfl hdg kk
theorem fp3_9 (X : wX p s m args c cc nL own g) (I : wI g α N A H0 H locs σ) (i : Nat) (hN : (32 + 4 * i) < N) (hl : Cond.fieldLink own index "RockRoad$Ship" "loadedOn" "I" ∈ lw_all) {x : Int32} (hdg : decode cc pc = .ok (.putfield index, 3)) (kk : ∀ (H1 : Heap) (locs1 : List Loc), wI g α N A H0 H1 locs1 (wu σ (32 + 4 * i) 9 x) → W p l e R s m args below meth c H1 locs1 cells slots Q (F0 m (pc + 3) ls rest)) : W p l e R s m args below meth c H locs cells slots Q (F0 m pc ls (.int x :: .ref (α (32 + 4 * i)) :: rest)) :=
  w_put X I (32 + 4 * i) hN (ci := 3) (k := 9) (wc_ship g α i _ _ _) ((wc_ship g α i _ _ _).trans rfl) rfl inX3 tyX3 tyX3_ok nmX3 (by decide) hl rfl (by decide +kernel) (Nat.le_of_ble_eq_true rfl) hdg kk
theorem fg4_0 (X : wX p s m args c cc nL own g) (I : wI g α N A H0 H locs σ) (hN : 0 < N) (hl : Cond.fieldLink own index "RockRoad" "swells" "[I" ∈ lw_all) (hdg : decode cc pc = .ok (.getfield index, 3)) (kk : W p l e R s m args below meth c H locs cells slots Q (F0 m (pc + 3) ls (.ref (α 1) :: rest))) : W p l e R s m args below meth c H locs cells slots Q (F0 m pc ls (.ref (α 0) :: rest)) :=
  w_get X I 0 hN (ci := 4) (k := 0) rfl rfl inX4 (by decide) hl rfl hdg kk
theorem fg4_1 (X : wX p s m args c cc nL own g) (I : wI g α N A H0 H locs σ) (hN : 0 < N) (hl : Cond.fieldLink own index "RockRoad" "layers" "LRockRoad$Layers;" ∈ lw_all) (hdg : decode cc pc = .ok (.getfield index, 3)) (kk : W p l e R s m args below meth c H locs cells slots Q (F0 m (pc + 3) ls (.ref (α 2) :: rest))) : W p l e R s m args below meth c H locs cells slots Q (F0 m pc ls (.ref (α 0) :: rest)) :=
  w_get X I 0 hN (ci := 4) (k := 1) rfl rfl inX4 (by decide) hl rfl hdg kk
theorem fg4_2 (X : wX p s m args c cc nL own g) (I : wI g α N A H0 H locs σ) (hN : 0 < N) (hl : Cond.fieldLink own index "RockRoad" "ships" "[LRockRoad$Ship;" ∈ lw_all) (hdg : decode cc pc = .ok (.getfield index, 3)) (kk : W p l e R s m args below meth c H locs cells slots Q (F0 m (pc + 3) ls (.ref (α 5) :: rest))) : W p l e R s m args below meth c H locs cells slots Q (F0 m pc ls (.ref (α 0) :: rest)) :=
  w_get X I 0 hN (ci := 4) (k := 2) rfl rfl inX4 (by decide) hl rfl hdg kk
theorem fg4_3 (X : wX p s m args c cc nL own g) (I : wI g α N A H0 H locs σ) (hN : 0 < N) (hl : Cond.fieldLink own index "RockRoad" "line" "[LRockRoad$Ship;" ∈ lw_all) (hdg : decode cc pc = .ok (.getfield index, 3)) (kk : W p l e R s m args below meth c H locs cells slots Q (F0 m (pc + 3) ls (.ref (α 6) :: rest))) : W p l e R s m args below meth c H locs cells slots Q (F0 m pc ls (.ref (α 0) :: rest)) :=
  w_get X I 0 hN (ci := 4) (k := 3) rfl rfl inX4 (by decide) hl rfl hdg kk
theorem fg4_4 (X : wX p s m args c cc nL own g) (I : wI g α N A H0 H locs σ) (hN : 0 < N) (hl : Cond.fieldLink own index "RockRoad" "draft" "LRockRoad$Draft;" ∈ lw_all) (hdg : decode cc pc = .ok (.getfield index, 3)) (kk : W p l e R s m args below meth c H locs cells slots Q (F0 m (pc + 3) ls (.ref (α 7) :: rest))) : W p l e R s m args below meth c H locs cells slots Q (F0 m pc ls (.ref (α 0) :: rest)) :=
  w_get X I 0 hN (ci := 4) (k := 4) rfl rfl inX4 (by decide) hl rfl hdg kk
theorem fg4_5 (X : wX p s m args c cc nL own g) (I : wI g α N A H0 H locs σ) (hN : 0 < N) (hl : Cond.fieldLink own index "RockRoad" "letters" "LRockRoad$Letters;" ∈ lw_all) (hdg : decode cc pc = .ok (.getfield index, 3)) (kk : W p l e R s m args below meth c H locs cells slots Q (F0 m (pc + 3) ls (.ref (α 10) :: rest))) : W p l e R s m args below meth c H locs cells slots Q (F0 m pc ls (.ref (α 0) :: rest)) :=
  w_get X I 0 hN (ci := 4) (k := 5) rfl rfl inX4 (by decide) hl rfl hdg kk
theorem fg4_6 (X : wX p s m args c cc nL own g) (I : wI g α N A H0 H locs σ) (hN : 0 < N) (hl : Cond.fieldLink own index "RockRoad" "today" "I" ∈ lw_all) (hdg : decode cc pc = .ok (.getfield index, 3)) (kk : W p l e R s m args below meth c H locs cells slots Q (F0 m (pc + 3) ls (.int (σ.1 0 6) :: rest))) : W p l e R s m args below meth c H locs cells slots Q (F0 m pc ls (.ref (α 0) :: rest)) :=
  w_get X I 0 hN (ci := 4) (k := 6) rfl rfl inX4 (by decide) hl rfl hdg kk
theorem fp4_6 (X : wX p s m args c cc nL own g) (I : wI g α N A H0 H locs σ) (hN : 0 < N) (hl : Cond.fieldLink own index "RockRoad" "today" "I" ∈ lw_all) {x : Int32} (hdg : decode cc pc = .ok (.putfield index, 3)) (kk : ∀ (H1 : Heap) (locs1 : List Loc), wI g α N A H0 H1 locs1 (wu σ 0 6 x) → W p l e R s m args below meth c H1 locs1 cells slots Q (F0 m (pc + 3) ls rest)) : W p l e R s m args below meth c H locs cells slots Q (F0 m pc ls (.int x :: .ref (α 0) :: rest)) :=
  w_put X I 0 hN (ci := 4) (k := 6) rfl rfl rfl inX4 tyX4 tyX4_ok nmX4 (by decide) hl rfl (by decide +kernel) (Nat.le_of_ble_eq_true rfl) hdg kk
theorem fg4_7 (X : wX p s m args c cc nL own g) (I : wI g α N A H0 H locs σ) (hN : 0 < N) (hl : Cond.fieldLink own index "RockRoad" "shipCount" "I" ∈ lw_all) (hdg : decode cc pc = .ok (.getfield index, 3)) (kk : W p l e R s m args below meth c H locs cells slots Q (F0 m (pc + 3) ls (.int (σ.1 0 7) :: rest))) : W p l e R s m args below meth c H locs cells slots Q (F0 m pc ls (.ref (α 0) :: rest)) :=
  w_get X I 0 hN (ci := 4) (k := 7) rfl rfl inX4 (by decide) hl rfl hdg kk
theorem fp4_7 (X : wX p s m args c cc nL own g) (I : wI g α N A H0 H locs σ) (hN : 0 < N) (hl : Cond.fieldLink own index "RockRoad" "shipCount" "I" ∈ lw_all) {x : Int32} (hdg : decode cc pc = .ok (.putfield index, 3)) (kk : ∀ (H1 : Heap) (locs1 : List Loc), wI g α N A H0 H1 locs1 (wu σ 0 7 x) → W p l e R s m args below meth c H1 locs1 cells slots Q (F0 m (pc + 3) ls rest)) : W p l e R s m args below meth c H locs cells slots Q (F0 m pc ls (.int x :: .ref (α 0) :: rest)) :=
  w_put X I 0 hN (ci := 4) (k := 7) rfl rfl rfl inX4 tyX4 tyX4_ok nmX4 (by decide) hl rfl (by decide +kernel) (Nat.le_of_ble_eq_true rfl) hdg kk
theorem fg4_8 (X : wX p s m args c cc nL own g) (I : wI g α N A H0 H locs σ) (hN : 0 < N) (hl : Cond.fieldLink own index "RockRoad" "delay" "I" ∈ lw_all) (hdg : decode cc pc = .ok (.getfield index, 3)) (kk : W p l e R s m args below meth c H locs cells slots Q (F0 m (pc + 3) ls (.int (σ.1 0 8) :: rest))) : W p l e R s m args below meth c H locs cells slots Q (F0 m pc ls (.ref (α 0) :: rest)) :=
  w_get X I 0 hN (ci := 4) (k := 8) rfl rfl inX4 (by decide) hl rfl hdg kk
theorem fp4_8 (X : wX p s m args c cc nL own g) (I : wI g α N A H0 H locs σ) (hN : 0 < N) (hl : Cond.fieldLink own index "RockRoad" "delay" "I" ∈ lw_all) {x : Int32} (hdg : decode cc pc = .ok (.putfield index, 3)) (kk : ∀ (H1 : Heap) (locs1 : List Loc), wI g α N A H0 H1 locs1 (wu σ 0 8 x) → W p l e R s m args below meth c H1 locs1 cells slots Q (F0 m (pc + 3) ls rest)) : W p l e R s m args below meth c H locs cells slots Q (F0 m pc ls (.int x :: .ref (α 0) :: rest)) :=
  w_put X I 0 hN (ci := 4) (k := 8) rfl rfl rfl inX4 tyX4 tyX4_ok nmX4 (by decide) hl rfl (by decide +kernel) (Nat.le_of_ble_eq_true rfl) hdg kk
theorem fg4_9 (X : wX p s m args c cc nL own g) (I : wI g α N A H0 H locs σ) (hN : 0 < N) (hl : Cond.fieldLink own index "RockRoad" "trace" "J" ∈ lw_all) (hdg : decode cc pc = .ok (.getfield index, 3)) (kk : W p l e R s m args below meth c H locs cells slots Q (F0 m (pc + 3) ls (.long (σ.2.1 0) :: rest))) : W p l e R s m args below meth c H locs cells slots Q (F0 m pc ls (.ref (α 0) :: rest)) :=
  w_get X I 0 hN (ci := 4) (k := 9) rfl rfl inX4 (by decide) hl rfl hdg kk
theorem fp4_9 (X : wX p s m args c cc nL own g) (I : wI g α N A H0 H locs σ) (hN : 0 < N) (hl : Cond.fieldLink own index "RockRoad" "trace" "J" ∈ lw_all) {x : Int64} (hdg : decode cc pc = .ok (.putfield index, 3)) (kk : ∀ (H1 : Heap) (locs1 : List Loc), wI g α N A H0 H1 locs1 (wuL σ 0 x) → W p l e R s m args below meth c H1 locs1 cells slots Q (F0 m (pc + 3) ls rest)) : W p l e R s m args below meth c H locs cells slots Q (F0 m pc ls (.long x :: .ref (α 0) :: rest)) :=
  w_putL X I 0 hN (ci := 4) (k := 9) rfl rfl rfl inX4 tyX4 tyX4_ok nmX4 (by decide) hl rfl (by decide +kernel) (Nat.le_of_ble_eq_true rfl) hdg kk
theorem fg5_0 (X : wX p s m args c cc nL own g) (I : wI g α N A H0 H locs σ) (hN : 14 < N) (hl : Cond.fieldLink own index "RockRoadModel" "thrown" "I" ∈ lw_all) (hdg : decode cc pc = .ok (.getfield index, 3)) (kk : W p l e R s m args below meth c H locs cells slots Q (F0 m (pc + 3) ls (.int (σ.1 14 0) :: rest))) : W p l e R s m args below meth c H locs cells slots Q (F0 m pc ls (.ref (α 14) :: rest)) :=
  w_get X I 14 hN (ci := 5) (k := 0) rfl rfl inX5 (by decide) hl rfl hdg kk
theorem fp5_0 (X : wX p s m args c cc nL own g) (I : wI g α N A H0 H locs σ) (hN : 14 < N) (hl : Cond.fieldLink own index "RockRoadModel" "thrown" "I" ∈ lw_all) {x : Int32} (hdg : decode cc pc = .ok (.putfield index, 3)) (kk : ∀ (H1 : Heap) (locs1 : List Loc), wI g α N A H0 H1 locs1 (wu σ 14 0 x) → W p l e R s m args below meth c H1 locs1 cells slots Q (F0 m (pc + 3) ls rest)) : W p l e R s m args below meth c H locs cells slots Q (F0 m pc ls (.int x :: .ref (α 14) :: rest)) :=
  w_put X I 14 hN (ci := 5) (k := 0) rfl rfl rfl inX5 tyX5 tyX5_ok nmX5 (by decide) hl rfl (by decide +kernel) (Nat.le_of_ble_eq_true rfl) hdg kk
theorem fg5_1 (X : wX p s m args c cc nL own g) (I : wI g α N A H0 H locs σ) (hN : 14 < N) (hl : Cond.fieldLink own index "RockRoadModel" "trace" "J" ∈ lw_all) (hdg : decode cc pc = .ok (.getfield index, 3)) (kk : W p l e R s m args below meth c H locs cells slots Q (F0 m (pc + 3) ls (.long (σ.2.1 14) :: rest))) : W p l e R s m args below meth c H locs cells slots Q (F0 m pc ls (.ref (α 14) :: rest)) :=
  w_get X I 14 hN (ci := 5) (k := 1) rfl rfl inX5 (by decide) hl rfl hdg kk
theorem fp5_1 (X : wX p s m args c cc nL own g) (I : wI g α N A H0 H locs σ) (hN : 14 < N) (hl : Cond.fieldLink own index "RockRoadModel" "trace" "J" ∈ lw_all) {x : Int64} (hdg : decode cc pc = .ok (.putfield index, 3)) (kk : ∀ (H1 : Heap) (locs1 : List Loc), wI g α N A H0 H1 locs1 (wuL σ 14 x) → W p l e R s m args below meth c H1 locs1 cells slots Q (F0 m (pc + 3) ls rest)) : W p l e R s m args below meth c H locs cells slots Q (F0 m pc ls (.long x :: .ref (α 14) :: rest)) :=
  w_putL X I 14 hN (ci := 5) (k := 1) rfl rfl rfl inX5 tyX5 tyX5_ok nmX5 (by decide) hl rfl (by decide +kernel) (Nat.le_of_ble_eq_true rfl) hdg kk
theorem fg5_2 (X : wX p s m args c cc nL own g) (I : wI g α N A H0 H locs σ) (hN : 14 < N) (hl : Cond.fieldLink own index "RockRoadModel" "today" "I" ∈ lw_all) (hdg : decode cc pc = .ok (.getfield index, 3)) (kk : W p l e R s m args below meth c H locs cells slots Q (F0 m (pc + 3) ls (.int (σ.1 14 2) :: rest))) : W p l e R s m args below meth c H locs cells slots Q (F0 m pc ls (.ref (α 14) :: rest)) :=
  w_get X I 14 hN (ci := 5) (k := 2) rfl rfl inX5 (by decide) hl rfl hdg kk
theorem fp5_2 (X : wX p s m args c cc nL own g) (I : wI g α N A H0 H locs σ) (hN : 14 < N) (hl : Cond.fieldLink own index "RockRoadModel" "today" "I" ∈ lw_all) {x : Int32} (hdg : decode cc pc = .ok (.putfield index, 3)) (kk : ∀ (H1 : Heap) (locs1 : List Loc), wI g α N A H0 H1 locs1 (wu σ 14 2 x) → W p l e R s m args below meth c H1 locs1 cells slots Q (F0 m (pc + 3) ls rest)) : W p l e R s m args below meth c H locs cells slots Q (F0 m pc ls (.int x :: .ref (α 14) :: rest)) :=
  w_put X I 14 hN (ci := 5) (k := 2) rfl rfl rfl inX5 tyX5 tyX5_ok nmX5 (by decide) hl rfl (by decide +kernel) (Nat.le_of_ble_eq_true rfl) hdg kk
theorem fg5_3 (X : wX p s m args c cc nL own g) (I : wI g α N A H0 H locs σ) (hN : 14 < N) (hl : Cond.fieldLink own index "RockRoadModel" "swell" "[I" ∈ lw_all) (hdg : decode cc pc = .ok (.getfield index, 3)) (kk : W p l e R s m args below meth c H locs cells slots Q (F0 m (pc + 3) ls (.ref (α 15) :: rest))) : W p l e R s m args below meth c H locs cells slots Q (F0 m pc ls (.ref (α 14) :: rest)) :=
  w_get X I 14 hN (ci := 5) (k := 3) rfl rfl inX5 (by decide) hl rfl hdg kk
theorem fg5_4 (X : wX p s m args c cc nL own g) (I : wI g α N A H0 H locs σ) (hN : 14 < N) (hl : Cond.fieldLink own index "RockRoadModel" "layers" "I" ∈ lw_all) (hdg : decode cc pc = .ok (.getfield index, 3)) (kk : W p l e R s m args below meth c H locs cells slots Q (F0 m (pc + 3) ls (.int (σ.1 14 4) :: rest))) : W p l e R s m args below meth c H locs cells slots Q (F0 m pc ls (.ref (α 14) :: rest)) :=
  w_get X I 14 hN (ci := 5) (k := 4) rfl rfl inX5 (by decide) hl rfl hdg kk
theorem fp5_4 (X : wX p s m args c cc nL own g) (I : wI g α N A H0 H locs σ) (hN : 14 < N) (hl : Cond.fieldLink own index "RockRoadModel" "layers" "I" ∈ lw_all) {x : Int32} (hdg : decode cc pc = .ok (.putfield index, 3)) (kk : ∀ (H1 : Heap) (locs1 : List Loc), wI g α N A H0 H1 locs1 (wu σ 14 4 x) → W p l e R s m args below meth c H1 locs1 cells slots Q (F0 m (pc + 3) ls rest)) : W p l e R s m args below meth c H locs cells slots Q (F0 m pc ls (.int x :: .ref (α 14) :: rest)) :=
  w_put X I 14 hN (ci := 5) (k := 4) rfl rfl rfl inX5 tyX5 tyX5_ok nmX5 (by decide) hl rfl (by decide +kernel) (Nat.le_of_ble_eq_true rfl) hdg kk
theorem fg5_5 (X : wX p s m args c cc nL own g) (I : wI g α N A H0 H locs σ) (hN : 14 < N) (hl : Cond.fieldLink own index "RockRoadModel" "tons" "[I" ∈ lw_all) (hdg : decode cc pc = .ok (.getfield index, 3)) (kk : W p l e R s m args below meth c H locs cells slots Q (F0 m (pc + 3) ls (.ref (α 16) :: rest))) : W p l e R s m args below meth c H locs cells slots Q (F0 m pc ls (.ref (α 14) :: rest)) :=
  w_get X I 14 hN (ci := 5) (k := 5) rfl rfl inX5 (by decide) hl rfl hdg kk
theorem fg5_6 (X : wX p s m args c cc nL own g) (I : wI g α N A H0 H locs σ) (hN : 14 < N) (hl : Cond.fieldLink own index "RockRoadModel" "worth" "[I" ∈ lw_all) (hdg : decode cc pc = .ok (.getfield index, 3)) (kk : W p l e R s m args below meth c H locs cells slots Q (F0 m (pc + 3) ls (.ref (α 17) :: rest))) : W p l e R s m args below meth c H locs cells slots Q (F0 m pc ls (.ref (α 14) :: rest)) :=
  w_get X I 14 hN (ci := 5) (k := 6) rfl rfl inX5 (by decide) hl rfl hdg kk
theorem fg5_7 (X : wX p s m args c cc nL own g) (I : wI g α N A H0 H locs σ) (hN : 14 < N) (hl : Cond.fieldLink own index "RockRoadModel" "ships" "I" ∈ lw_all) (hdg : decode cc pc = .ok (.getfield index, 3)) (kk : W p l e R s m args below meth c H locs cells slots Q (F0 m (pc + 3) ls (.int (σ.1 14 7) :: rest))) : W p l e R s m args below meth c H locs cells slots Q (F0 m pc ls (.ref (α 14) :: rest)) :=
  w_get X I 14 hN (ci := 5) (k := 7) rfl rfl inX5 (by decide) hl rfl hdg kk
theorem fp5_7 (X : wX p s m args c cc nL own g) (I : wI g α N A H0 H locs σ) (hN : 14 < N) (hl : Cond.fieldLink own index "RockRoadModel" "ships" "I" ∈ lw_all) {x : Int32} (hdg : decode cc pc = .ok (.putfield index, 3)) (kk : ∀ (H1 : Heap) (locs1 : List Loc), wI g α N A H0 H1 locs1 (wu σ 14 7 x) → W p l e R s m args below meth c H1 locs1 cells slots Q (F0 m (pc + 3) ls rest)) : W p l e R s m args below meth c H locs cells slots Q (F0 m pc ls (.int x :: .ref (α 14) :: rest)) :=
  w_put X I 14 hN (ci := 5) (k := 7) rfl rfl rfl inX5 tyX5 tyX5_ok nmX5 (by decide) hl rfl (by decide +kernel) (Nat.le_of_ble_eq_true rfl) hdg kk
theorem fg5_8 (X : wX p s m args c cc nL own g) (I : wI g α N A H0 H locs σ) (hN : 14 < N) (hl : Cond.fieldLink own index "RockRoadModel" "kind" "[I" ∈ lw_all) (hdg : decode cc pc = .ok (.getfield index, 3)) (kk : W p l e R s m args below meth c H locs cells slots Q (F0 m (pc + 3) ls (.ref (α 18) :: rest))) : W p l e R s m args below meth c H locs cells slots Q (F0 m pc ls (.ref (α 14) :: rest)) :=
  w_get X I 14 hN (ci := 5) (k := 8) rfl rfl inX5 (by decide) hl rfl hdg kk
theorem fg5_9 (X : wX p s m args c cc nL own g) (I : wI g α N A H0 H locs σ) (hN : 14 < N) (hl : Cond.fieldLink own index "RockRoadModel" "came" "[I" ∈ lw_all) (hdg : decode cc pc = .ok (.getfield index, 3)) (kk : W p l e R s m args below meth c H locs cells slots Q (F0 m (pc + 3) ls (.ref (α 19) :: rest))) : W p l e R s m args below meth c H locs cells slots Q (F0 m pc ls (.ref (α 14) :: rest)) :=
  w_get X I 14 hN (ci := 5) (k := 9) rfl rfl inX5 (by decide) hl rfl hdg kk
theorem fg5_10 (X : wX p s m args c cc nL own g) (I : wI g α N A H0 H locs σ) (hN : 14 < N) (hl : Cond.fieldLink own index "RockRoadModel" "wants" "[I" ∈ lw_all) (hdg : decode cc pc = .ok (.getfield index, 3)) (kk : W p l e R s m args below meth c H locs cells slots Q (F0 m (pc + 3) ls (.ref (α 20) :: rest))) : W p l e R s m args below meth c H locs cells slots Q (F0 m pc ls (.ref (α 14) :: rest)) :=
  w_get X I 14 hN (ci := 5) (k := 10) rfl rfl inX5 (by decide) hl rfl hdg kk
theorem fg5_11 (X : wX p s m args c cc nL own g) (I : wI g α N A H0 H locs σ) (hN : 14 < N) (hl : Cond.fieldLink own index "RockRoadModel" "water" "[I" ∈ lw_all) (hdg : decode cc pc = .ok (.getfield index, 3)) (kk : W p l e R s m args below meth c H locs cells slots Q (F0 m (pc + 3) ls (.ref (α 21) :: rest))) : W p l e R s m args below meth c H locs cells slots Q (F0 m pc ls (.ref (α 14) :: rest)) :=
  w_get X I 14 hN (ci := 5) (k := 11) rfl rfl inX5 (by decide) hl rfl hdg kk
theorem fg5_12 (X : wX p s m args c cc nL own g) (I : wI g α N A H0 H locs σ) (hN : 14 < N) (hl : Cond.fieldLink own index "RockRoadModel" "done" "[I" ∈ lw_all) (hdg : decode cc pc = .ok (.getfield index, 3)) (kk : W p l e R s m args below meth c H locs cells slots Q (F0 m (pc + 3) ls (.ref (α 22) :: rest))) : W p l e R s m args below meth c H locs cells slots Q (F0 m pc ls (.ref (α 14) :: rest)) :=
  w_get X I 14 hN (ci := 5) (k := 12) rfl rfl inX5 (by decide) hl rfl hdg kk
theorem fg5_13 (X : wX p s m args c cc nL own g) (I : wI g α N A H0 H locs σ) (hN : 14 < N) (hl : Cond.fieldLink own index "RockRoadModel" "cargo" "[I" ∈ lw_all) (hdg : decode cc pc = .ok (.getfield index, 3)) (kk : W p l e R s m args below meth c H locs cells slots Q (F0 m (pc + 3) ls (.ref (α 23) :: rest))) : W p l e R s m args below meth c H locs cells slots Q (F0 m pc ls (.ref (α 14) :: rest)) :=
  w_get X I 14 hN (ci := 5) (k := 13) rfl rfl inX5 (by decide) hl rfl hdg kk
theorem fg5_14 (X : wX p s m args c cc nL own g) (I : wI g α N A H0 H locs σ) (hN : 14 < N) (hl : Cond.fieldLink own index "RockRoadModel" "took" "[I" ∈ lw_all) (hdg : decode cc pc = .ok (.getfield index, 3)) (kk : W p l e R s m args below meth c H locs cells slots Q (F0 m (pc + 3) ls (.ref (α 24) :: rest))) : W p l e R s m args below meth c H locs cells slots Q (F0 m pc ls (.ref (α 14) :: rest)) :=
  w_get X I 14 hN (ci := 5) (k := 14) rfl rfl inX5 (by decide) hl rfl hdg kk
theorem fg5_15 (X : wX p s m args c cc nL own g) (I : wI g α N A H0 H locs σ) (hN : 14 < N) (hl : Cond.fieldLink own index "RockRoadModel" "queue" "[I" ∈ lw_all) (hdg : decode cc pc = .ok (.getfield index, 3)) (kk : W p l e R s m args below meth c H locs cells slots Q (F0 m (pc + 3) ls (.ref (α 25) :: rest))) : W p l e R s m args below meth c H locs cells slots Q (F0 m pc ls (.ref (α 14) :: rest)) :=
  w_get X I 14 hN (ci := 5) (k := 15) rfl rfl inX5 (by decide) hl rfl hdg kk
theorem fg5_16 (X : wX p s m args c cc nL own g) (I : wI g α N A H0 H locs σ) (hN : 14 < N) (hl : Cond.fieldLink own index "RockRoadModel" "dug" "[I" ∈ lw_all) (hdg : decode cc pc = .ok (.getfield index, 3)) (kk : W p l e R s m args below meth c H locs cells slots Q (F0 m (pc + 3) ls (.ref (α 26) :: rest))) : W p l e R s m args below meth c H locs cells slots Q (F0 m pc ls (.ref (α 14) :: rest)) :=
  w_get X I 14 hN (ci := 5) (k := 16) rfl rfl inX5 (by decide) hl rfl hdg kk
theorem fg5_17 (X : wX p s m args c cc nL own g) (I : wI g α N A H0 H locs σ) (hN : 14 < N) (hl : Cond.fieldLink own index "RockRoadModel" "comes" "[I" ∈ lw_all) (hdg : decode cc pc = .ok (.getfield index, 3)) (kk : W p l e R s m args below meth c H locs cells slots Q (F0 m (pc + 3) ls (.ref (α 27) :: rest))) : W p l e R s m args below meth c H locs cells slots Q (F0 m pc ls (.ref (α 14) :: rest)) :=
  w_get X I 14 hN (ci := 5) (k := 17) rfl rfl inX5 (by decide) hl rfl hdg kk
theorem fg5_18 (X : wX p s m args c cc nL own g) (I : wI g α N A H0 H locs σ) (hN : 14 < N) (hl : Cond.fieldLink own index "RockRoadModel" "delay" "I" ∈ lw_all) (hdg : decode cc pc = .ok (.getfield index, 3)) (kk : W p l e R s m args below meth c H locs cells slots Q (F0 m (pc + 3) ls (.int (σ.1 14 18) :: rest))) : W p l e R s m args below meth c H locs cells slots Q (F0 m pc ls (.ref (α 14) :: rest)) :=
  w_get X I 14 hN (ci := 5) (k := 18) rfl rfl inX5 (by decide) hl rfl hdg kk
theorem fp5_18 (X : wX p s m args c cc nL own g) (I : wI g α N A H0 H locs σ) (hN : 14 < N) (hl : Cond.fieldLink own index "RockRoadModel" "delay" "I" ∈ lw_all) {x : Int32} (hdg : decode cc pc = .ok (.putfield index, 3)) (kk : ∀ (H1 : Heap) (locs1 : List Loc), wI g α N A H0 H1 locs1 (wu σ 14 18 x) → W p l e R s m args below meth c H1 locs1 cells slots Q (F0 m (pc + 3) ls rest)) : W p l e R s m args below meth c H locs cells slots Q (F0 m pc ls (.int x :: .ref (α 14) :: rest)) :=
  w_put X I 14 hN (ci := 5) (k := 18) rfl rfl rfl inX5 tyX5 tyX5_ok nmX5 (by decide) hl rfl (by decide +kernel) (Nat.le_of_ble_eq_true rfl) hdg kk
theorem fg5_19 (X : wX p s m args c cc nL own g) (I : wI g α N A H0 H locs σ) (hN : 14 < N) (hl : Cond.fieldLink own index "RockRoadModel" "dugEver" "I" ∈ lw_all) (hdg : decode cc pc = .ok (.getfield index, 3)) (kk : W p l e R s m args below meth c H locs cells slots Q (F0 m (pc + 3) ls (.int (σ.1 14 19) :: rest))) : W p l e R s m args below meth c H locs cells slots Q (F0 m pc ls (.ref (α 14) :: rest)) :=
  w_get X I 14 hN (ci := 5) (k := 19) rfl rfl inX5 (by decide) hl rfl hdg kk
theorem fp5_19 (X : wX p s m args c cc nL own g) (I : wI g α N A H0 H locs σ) (hN : 14 < N) (hl : Cond.fieldLink own index "RockRoadModel" "dugEver" "I" ∈ lw_all) {x : Int32} (hdg : decode cc pc = .ok (.putfield index, 3)) (kk : ∀ (H1 : Heap) (locs1 : List Loc), wI g α N A H0 H1 locs1 (wu σ 14 19 x) → W p l e R s m args below meth c H1 locs1 cells slots Q (F0 m (pc + 3) ls rest)) : W p l e R s m args below meth c H locs cells slots Q (F0 m pc ls (.int x :: .ref (α 14) :: rest)) :=
  w_put X I 14 hN (ci := 5) (k := 19) rfl rfl rfl inX5 tyX5 tyX5_ok nmX5 (by decide) hl rfl (by decide +kernel) (Nat.le_of_ble_eq_true rfl) hdg kk
theorem fg5_20 (X : wX p s m args c cc nL own g) (I : wI g α N A H0 H locs σ) (hN : 14 < N) (hl : Cond.fieldLink own index "RockRoadModel" "draft" "[I" ∈ lw_all) (hdg : decode cc pc = .ok (.getfield index, 3)) (kk : W p l e R s m args below meth c H locs cells slots Q (F0 m (pc + 3) ls (.ref (α 28) :: rest))) : W p l e R s m args below meth c H locs cells slots Q (F0 m pc ls (.ref (α 14) :: rest)) :=
  w_get X I 14 hN (ci := 5) (k := 20) rfl rfl inX5 (by decide) hl rfl hdg kk
theorem fg5_21 (X : wX p s m args c cc nL own g) (I : wI g α N A H0 H locs σ) (hN : 14 < N) (hl : Cond.fieldLink own index "RockRoadModel" "drafted" "I" ∈ lw_all) (hdg : decode cc pc = .ok (.getfield index, 3)) (kk : W p l e R s m args below meth c H locs cells slots Q (F0 m (pc + 3) ls (.int (σ.1 14 21) :: rest))) : W p l e R s m args below meth c H locs cells slots Q (F0 m pc ls (.ref (α 14) :: rest)) :=
  w_get X I 14 hN (ci := 5) (k := 21) rfl rfl inX5 (by decide) hl rfl hdg kk
theorem fp5_21 (X : wX p s m args c cc nL own g) (I : wI g α N A H0 H locs σ) (hN : 14 < N) (hl : Cond.fieldLink own index "RockRoadModel" "drafted" "I" ∈ lw_all) {x : Int32} (hdg : decode cc pc = .ok (.putfield index, 3)) (kk : ∀ (H1 : Heap) (locs1 : List Loc), wI g α N A H0 H1 locs1 (wu σ 14 21 x) → W p l e R s m args below meth c H1 locs1 cells slots Q (F0 m (pc + 3) ls rest)) : W p l e R s m args below meth c H locs cells slots Q (F0 m pc ls (.int x :: .ref (α 14) :: rest)) :=
  w_put X I 14 hN (ci := 5) (k := 21) rfl rfl rfl inX5 tyX5 tyX5_ok nmX5 (by decide) hl rfl (by decide +kernel) (Nat.le_of_ble_eq_true rfl) hdg kk
theorem fg5_22 (X : wX p s m args c cc nL own g) (I : wI g α N A H0 H locs σ) (hN : 14 < N) (hl : Cond.fieldLink own index "RockRoadModel" "terms" "[I" ∈ lw_all) (hdg : decode cc pc = .ok (.getfield index, 3)) (kk : W p l e R s m args below meth c H locs cells slots Q (F0 m (pc + 3) ls (.ref (α 29) :: rest))) : W p l e R s m args below meth c H locs cells slots Q (F0 m pc ls (.ref (α 14) :: rest)) :=
  w_get X I 14 hN (ci := 5) (k := 22) rfl rfl inX5 (by decide) hl rfl hdg kk
theorem fg5_23 (X : wX p s m args c cc nL own g) (I : wI g α N A H0 H locs σ) (hN : 14 < N) (hl : Cond.fieldLink own index "RockRoadModel" "read" "[I" ∈ lw_all) (hdg : decode cc pc = .ok (.getfield index, 3)) (kk : W p l e R s m args below meth c H locs cells slots Q (F0 m (pc + 3) ls (.ref (α 30) :: rest))) : W p l e R s m args below meth c H locs cells slots Q (F0 m pc ls (.ref (α 14) :: rest)) :=
  w_get X I 14 hN (ci := 5) (k := 23) rfl rfl inX5 (by decide) hl rfl hdg kk
theorem fg5_24 (X : wX p s m args c cc nL own g) (I : wI g α N A H0 H locs σ) (hN : 14 < N) (hl : Cond.fieldLink own index "RockRoadModel" "isMet" "[Z" ∈ lw_all) (hdg : decode cc pc = .ok (.getfield index, 3)) (kk : W p l e R s m args below meth c H locs cells slots Q (F0 m (pc + 3) ls (.ref (α 31) :: rest))) : W p l e R s m args below meth c H locs cells slots Q (F0 m pc ls (.ref (α 14) :: rest)) :=
  w_get X I 14 hN (ci := 5) (k := 24) rfl rfl inX5 (by decide) hl rfl hdg kk
end WF
end
section
/-! rows that the walks use: another word for a number on the stack; reads behind writes -/
section WB5
variable {p : Program} {l : Launch} {e : Env} {R : Room} {s : State} {m : MethodId} {args : Array Value} {below : List Frame} {meth : Method} {c : Code} {H : Heap} {locs : List Loc} {cells slots : Nat} {Q : State → Prop} {pc : Nat} {ls : Array Slot} {rest : List Value}
theorem w_eqi {x y : Int32} (h : x = y) (k : W p l e R s m args below meth c H locs cells slots Q (F0 m pc ls (.int y :: rest))) : W p l e R s m args below meth c H locs cells slots Q (F0 m pc ls (.int x :: rest)) := by rw [h]; exact k
theorem w_eqv {x y : Value} (h : x = y) (k : W p l e R s m args below meth c H locs cells slots Q (F0 m pc ls (y :: rest))) : W p l e R s m args below meth c H locs cells slots Q (F0 m pc ls (x :: rest)) := by rw [h]; exact k
end WB5
theorem wu_o {σ : wS} {i k j k' : Nat} {x : Int32} (h : j ≠ i) : (wu σ i k x).1 j k' = σ.1 j k' := by show va_up σ.1 i _ j k' = _; rw [va_up_ne _ _ h]
theorem wu_s {σ : wS} {i k : Nat} {x : Int32} : (wu σ i k x).1 i k = x := by show va_up σ.1 i _ i k = _; rw [va_up_self]; exact if_pos rfl
theorem wu_d {σ : wS} {i k k' : Nat} {x : Int32} (h : k' ≠ k) : (wu σ i k x).1 i k' = σ.1 i k' := by show va_up σ.1 i _ i k' = _; rw [va_up_self]; exact if_neg h
theorem wu_or {σ : wS} {i k j : Nat} {x : Int32} (h : j ≠ i) : (wu σ i k x).1 j = σ.1 j := by show va_up σ.1 i _ j = _; rw [va_up_ne _ _ h]
theorem wu_sr {σ : wS} {i k : Nat} {x : Int32} : (wu σ i k x).1 i = upd (σ.1 i) k x := by show va_up σ.1 i _ i = _; rw [va_up_self]
theorem wu_eq {σ : wS} {i k j k' : Nat} {x : Int32} : (wu σ i k x).1 j k' = if j = i ∧ k' = k then x else σ.1 j k' := by
  by_cases h : j = i
  · subst h
    by_cases h2 : k' = k
    · subst h2; rw [wu_s, if_pos ⟨rfl, rfl⟩]
    · rw [wu_d h2, if_neg (fun z => h2 z.2)]
  · rw [wu_o h, if_neg (fun z => h z.1)]
theorem wuR_o {σ : wS} {i k j k' : Nat} {x : Option Nat} (h : j ≠ i) : (wuR σ i k x).2.2 j k' = σ.2.2 j k' := by show va_up σ.2.2 i _ j k' = _; rw [va_up_ne _ _ h]
theorem wuR_s {σ : wS} {i k : Nat} {x : Option Nat} : (wuR σ i k x).2.2 i k = x := by show va_up σ.2.2 i _ i k = _; rw [va_up_self, va_up_self]
theorem wuR_d {σ : wS} {i k k' : Nat} {x : Option Nat} (h : k' ≠ k) : (wuR σ i k x).2.2 i k' = σ.2.2 i k' := by show va_up σ.2.2 i _ i k' = _; rw [va_up_self, va_up_ne _ _ h]
theorem wuR_eq {σ : wS} {i k j k' : Nat} {x : Option Nat} : (wuR σ i k x).2.2 j k' = if j = i ∧ k' = k then x else σ.2.2 j k' := by
  by_cases h : j = i
  · subst h
    by_cases h2 : k' = k
    · subst h2; rw [wuR_s, if_pos ⟨rfl, rfl⟩]
    · rw [wuR_d h2, if_neg (fun z => h2 z.2)]
  · rw [wuR_o h, if_neg (fun z => h z.1)]
theorem nI_le' {a b : Nat} (h : nI a ≤ nI b) (ha : a < 2 ^ 31) (hb : b < 2 ^ 31) : a ≤ b := (nI_leI ha hb).mp h
theorem nI_lt' {a b : Nat} (h : nI a < nI b) (ha : a < 2 ^ 31) (hb : b < 2 ^ 31) : a < b := (nI_ltI ha hb).mp h
/-- between 0 and n - 1: it is a place -/
theorem nI_btw {x : Int32} {n : Nat} (h1 : ¬ x < 0) (h2 : ¬ nI n < x) (hn : n < 2 ^ 31) : ∃ k, k ≤ n ∧ x = nI k := by
  obtain ⟨j, hj, rfl⟩ := nI_of h1
  exact ⟨j, Nat.le_of_not_lt (fun h => h2 (nI_lt h hj)), rfl⟩
/-- sums in the machine's numbers -/
def smI (f : Nat → Int32) : Nat → Int32
  | 0 => 0
  | n + 1 => smI f n + f n
theorem smI_cong {f h : Nat → Int32} : ∀ {n : Nat}, (∀ k, k < n → f k = h k) → smI f n = smI h n
  | 0, _ => rfl
  | n + 1, hh => by rw [smI, smI, smI_cong (fun k hk => hh k (by omega)), hh n (by omega)]
theorem ix2 (x : Int32) {n : Nat} (hn : n < 2 ^ 31) : (x < 0 ∨ nI n ≤ x) ∨ ∃ k, k < n ∧ x = nI k := by
  rcases pk_ix x hn with h | h | h
  · exact Or.inl (Or.inl h)
  · exact Or.inl (Or.inr h)
  · exact Or.inr h
theorem nbad {k n : Nat} (h : k < n) (hn : n < 2 ^ 31) : ¬ (nI k < 0 ∨ nI n ≤ nI k) := fun z => by
  rcases z with z | z
  · exact nI_pos (by omega) z
  · exact nI_ge h hn z
theorem nI_ti {n : Nat} (h : n < 2 ^ 30) : (nI n - 1).toInt = (n : Int) - 1 := pk_sub_toInt (b := 1) h (by decide)
theorem m1_lt {e j : Nat} (he : e < 2 ^ 30) (hj : j < 2 ^ 30) : nI e - 1 < nI j ↔ e ≤ j := by
  rw [Int32.lt_iff_toInt_lt, nI_ti he, nI_toInt (by omega)]
  omega
theorem m1_bad {x : Int32} {n : Nat} (hn : n < 2 ^ 30) (h : ¬ (¬ x < 0 ∧ ¬ nI n - 1 < x)) : x < 0 ∨ nI n ≤ x := by
  rcases ix2 x (n := n) (by omega) with z | ⟨k, hk, rfl⟩
  · exact z
  · exact absurd ⟨nI_pos (by omega), fun z => by rw [m1_lt hn (by omega)] at z; omega⟩ h
theorem m1_ok {x : Int32} {n : Nat} (hn : n < 2 ^ 30) (h : ¬ x < 0 ∧ ¬ nI n - 1 < x) : ∃ k, k < n ∧ x = nI k := by
  rcases ix2 x (n := n) (by omega) with z | z
  · rcases z with z | z
    · exact absurd z h.1
    · refine absurd ?_ h.2
      rw [Int32.lt_iff_toInt_lt, nI_ti hn]
      rw [Int32.le_iff_toInt_le, nI_toInt (by omega)] at z
      omega
  · exact z
theorem bt_ok {x : Int32} {n : Nat} (hn : n < 2 ^ 31) (h : ¬ x < 0 ∧ ¬ nI n ≤ x) : ∃ k, k < n ∧ x = nI k := by
  rcases ix2 x hn with z | z
  · exact absurd z (fun z => z.elim h.1 h.2)
  · exact z
theorem bt_bad {x : Int32} {n : Nat} (h : ¬ (¬ x < 0 ∧ ¬ nI n ≤ x)) : x < 0 ∨ nI n ≤ x := by
  by_cases h1 : x < 0
  · exact Or.inl h1
  · by_cases h2 : nI n ≤ x
    · exact Or.inr h2
    · exact absurd ⟨h1, h2⟩ h
/-- a place, or a refusal -/
def spq (n : Nat) (a bad : Int32) (F : Nat → Int32) : Int32 := if a < 0 ∨ nI n ≤ a then bad else F a.toNatClampNeg
theorem spq_bad {n : Nat} {a bad : Int32} {F : Nat → Int32} (h : a < 0 ∨ nI n ≤ a) : spq n a bad F = bad := if_pos h
theorem spq_ok {n k : Nat} {bad : Int32} {F : Nat → Int32} (h : k < n) (hn : n < 2 ^ 31) : spq n (nI k) bad F = F k := by
  rw [spq, if_neg (nbad h hn), nI_clamp (by omega)]
theorem spq_cong {n : Nat} {a bad : Int32} {F G : Nat → Int32} (hn : n < 2 ^ 31) (h : ∀ k, k < n → F k = G k) : spq n a bad F = spq n a bad G := by
  rcases ix2 a hn with z | ⟨k, hk, rfl⟩
  · rw [spq_bad z, spq_bad z]
  · rw [spq_ok hk hn, spq_ok hk hn, h k hk]
theorem sw7 (w : Int32) : w = 0 ∨ w = 1 ∨ w = 2 ∨ w = 3 ∨ w = 4 ∨ w = 5 ∨ w = 6 ∨ ((w.toInt < 0 ∨ 6 < w.toInt) ∧ w ≠ 0 ∧ w ≠ 1 ∧ w ≠ 2 ∧ w ≠ 3 ∧ w ≠ 4 ∧ w ≠ 5 ∧ w ≠ 6) := by
  rcases ix2 w (n := 7) (by decide) with z | ⟨k, hk, rfl⟩
  · refine Or.inr (Or.inr (Or.inr (Or.inr (Or.inr (Or.inr (Or.inr ⟨?_, ?_⟩))))))
    · rcases z with z | z
      · left; rw [Int32.lt_iff_toInt_lt] at z; exact z
      · right
        rw [Int32.le_iff_toInt_le, nI_toInt (by decide)] at z
        omega
    · refine ⟨?_, ?_, ?_, ?_, ?_, ?_, ?_⟩ <;> (rintro rfl; revert z; decide)
  · rcases (show k = 0 ∨ k = 1 ∨ k = 2 ∨ k = 3 ∨ k = 4 ∨ k = 5 ∨ k = 6 by omega) with rfl | rfl | rfl | rfl | rfl | rfl | rfl <;> decide
theorem sw3 {w : Int32} (h : ¬ w < 0 ∧ ¬ 2 < w) : w = 0 ∨ w = 1 ∨ w = 2 := by
  obtain ⟨k, hk, rfl⟩ := nI_btw (n := 2) h.1 h.2 (by decide)
  rcases (show k = 0 ∨ k = 1 ∨ k = 2 by omega) with rfl | rfl | rfl <;> decide
theorem sw2 {w : Int32} (h : ¬ w < 0 ∧ ¬ 1 < w) : w = 0 ∨ w = 1 := by
  obtain ⟨k, hk, rfl⟩ := nI_btw (n := 1) h.1 h.2 (by decide)
  rcases (show k = 0 ∨ k = 1 by omega) with rfl | rfl <;> decide
/-- what the queries answer, of rows -/
def smN (cg : Nat → Int32) (k : Int32) (j : Nat) : Int32 := (smI cg j + cg j) / k - smI cg j / k
def smpF (cg w : Nat → Int32) (k : Int32) (ly : Nat) : Int32 := if smI (smN cg k) ly = 0 then (-9) else smI (fun j => smN cg k j * w j) ly / smI (smN cg k) ly
abbrev cnP (tr sw lg : Nat → Int32) (j : Nat) : Prop := ¬ (tr 3 = 1 ∧ 4 < sw j) ∧ ¬ (tr 4 = 1 ∧ nI j - nI j / 7 * 7 = 6) ∧ ¬ (tr 5 = 1 ∧ lg j = (-1))
abbrev inF (tr sw lg : Nat → Int32) (a : Nat) (t : Nat) : Int32 := if cnP tr sw lg (a + t) then 1 else 0
def usF (tr sw lg : Nat → Int32) (a e : Nat) : Int32 := smI (inF tr sw lg a) (e - a)
def shF (sw lg : Nat → Int32) (j : Nat) : Int32 := if 7 < sw j then 0 else if lg j = 0 then 1 else 2
abbrev shG (tr sw lg : Nat → Int32) (w : Int32) (a : Nat) (t : Nat) : Int32 := if cnP tr sw lg (a + t) ∧ tr 0 < smI (inF tr sw lg a) (t + 1) ∧ shF sw lg (a + t) = w then 1 else 0
def lcO (cm : Nat → Int32) (td : Int32) : Nat → Option Nat
  | 0 => none
  | j + 1 => if cm j ≤ td then some j else lcO cm td j
def fgF (q dg : Nat → Int32) (j : Nat) : Int32 := if smI (fun t => dg (j - 6 + t)) (j + 1 - (j - 6)) = 0 then (-9) else (q j * nI (j + 1 - (j - 6)) + smI (fun t => dg (j - 6 + t)) (j + 1 - (j - 6)) - 1) / smI (fun t => dg (j - 6 + t)) (j + 1 - (j - 6))
def fgO (q dg : Nat → Int32) (o : Option Nat) : Int32 := match o with
  | none => (-9)
  | some j => fgF q dg j
theorem lcO_lt {cm : Nat → Int32} {td : Int32} : ∀ {n j : Nat}, lcO cm td n = some j → j < n
  | 0, j, h => by simp [lcO] at h
  | n + 1, j, h => by
    rw [lcO] at h
    split at h
    · cases h; omega
    · have := lcO_lt h; omega
end
section
section
variable {l : Launch} {g : wG} {α : Nat → Nat} {N : Nat} {σ : wS} {p : Program} {e : Env} {s : State} {m : MethodId} {args : Array Value} {below : List Frame} {meth : Method} {c : Code}
set_option maxHeartbeats 4000000 in
set_option maxRecDepth 100000 in
theorem ctX4_within (l : Launch) (g : wG) (α : Nat → Nat) (N : Nat) (σ : wS) (a b c' : Int32)  : Met l yX4_within (wM yX4_within cX4_within 3 (some FieldType.boolean)) ({ frames := 0, cells := 0, slots := 0, locals := 0 } : Room) (wPc g α N σ [.int a, .int b, .int c']) (vp_Si (fun r => r = if ¬ a < b ∧ ¬ c' < a then 1 else 0)) 0 0 (fun _ => False) := by
  refine w_enterS (by decide) (Nat.le_of_ble_eq_true rfl) (fun p e s m args below meth c X I hr hlk ls hl => ?_)
  have hx := X.1.1
  have hb := X.1.2.1
  have hl : lv_has ls 3 [(0, .int a), (1, .int b), (2, .int c')] := hl
  refine lv_iload_n hx hb dX4_within_0 rfl (lv_at hl 0 rfl) ?_
  refine lv_iload_n hx hb dX4_within_1 rfl (lv_at hl 1 rfl) ?_
  refine lv_icmp_lt (tgt := 14) hx hb dX4_within_2 (by decide) (fun c_2 => ?_) (fun c_2 => ?_)
  ·
    refine lv_iconst (v := 0) hx hb dX4_within_14 (by decide) ?_
    exact w_zretS X hr hlk (Or.inl rfl) (by simp [c_2]) dX4_within_15
  ·
    refine lv_iload_n hx hb dX4_within_5 rfl (lv_at hl 0 rfl) ?_
    refine lv_iload_n hx hb dX4_within_6 rfl (lv_at hl 2 rfl) ?_
    refine lv_icmp_gt (tgt := 14) hx hb dX4_within_7 (by decide) (fun c_7 => ?_) (fun c_7 => ?_)
    ·
      refine lv_iconst (v := 0) hx hb dX4_within_14 (by decide) ?_
      exact w_zretS X hr hlk (Or.inl rfl) (by simp [c_2, c_7]) dX4_within_15
    ·
      refine lv_iconst (v := 1) hx hb dX4_within_10 (by decide) ?_
      refine lv_goto (tgt := 15) hx hb dX4_within_11 (by decide) ?_
      exact w_zretS X hr hlk (Or.inr rfl) (by simp [c_2, c_7]) dX4_within_15
end
section
variable {l : Launch} {g : wG} {α : Nat → Nat} {N : Nat} {σ : wS} {p : Program} {e : Env} {s : State} {m : MethodId} {args : Array Value} {below : List Frame} {meth : Method} {c : Code}
set_option maxHeartbeats 4000000 in
set_option maxRecDepth 100000 in
theorem ctX5_in (l : Launch) (g : wG) (α : Nat → Nat) (N : Nat) (σ : wS) (a b c' : Int32)  : Met l yX5_in (wM yX5_in cX5_in 3 (some FieldType.boolean)) ({ frames := 0, cells := 0, slots := 0, locals := 0 } : Room) (wPc g α N σ [.int a, .int b, .int c']) (vp_Si (fun r => r = if ¬ a < b ∧ ¬ c' < a then 1 else 0)) 0 0 (fun _ => False) := by
  refine w_enterS (by decide) (Nat.le_of_ble_eq_true rfl) (fun p e s m args below meth c X I hr hlk ls hl => ?_)
  have hx := X.1.1
  have hb := X.1.2.1
  have hl : lv_has ls 3 [(0, .int a), (1, .int b), (2, .int c')] := hl
  refine lv_iload_n hx hb dX5_in_0 rfl (lv_at hl 0 rfl) ?_
  refine lv_iload_n hx hb dX5_in_1 rfl (lv_at hl 1 rfl) ?_
  refine lv_icmp_lt (tgt := 14) hx hb dX5_in_2 (by decide) (fun c_2 => ?_) (fun c_2 => ?_)
  ·
    refine lv_iconst (v := 0) hx hb dX5_in_14 (by decide) ?_
    exact w_zretS X hr hlk (Or.inl rfl) (by simp [c_2]) dX5_in_15
  ·
    refine lv_iload_n hx hb dX5_in_5 rfl (lv_at hl 0 rfl) ?_
    refine lv_iload_n hx hb dX5_in_6 rfl (lv_at hl 2 rfl) ?_
    refine lv_icmp_gt (tgt := 14) hx hb dX5_in_7 (by decide) (fun c_7 => ?_) (fun c_7 => ?_)
    ·
      refine lv_iconst (v := 0) hx hb dX5_in_14 (by decide) ?_
      exact w_zretS X hr hlk (Or.inl rfl) (by simp [c_2, c_7]) dX5_in_15
    ·
      refine lv_iconst (v := 1) hx hb dX5_in_10 (by decide) ?_
      refine lv_goto (tgt := 15) hx hb dX5_in_11 (by decide) ?_
      exact w_zretS X hr hlk (Or.inr rfl) (by simp [c_2, c_7]) dX5_in_15
end
section
variable {l : Launch} {g : wG} {α : Nat → Nat} {N : Nat} {σ : wS} {p : Program} {e : Env} {s : State} {m : MethodId} {args : Array Value} {below : List Frame} {meth : Method} {c : Code}
set_option maxHeartbeats 4000000 in
set_option maxRecDepth 100000 in
theorem ctX1_has (l : Launch) (g : wG) (α : Nat → Nat) (N : Nat) (σ : wS) (a : Int32) (hN : 32 ≤ N) : Met l yX1_has (wM yX1_has cX1_has 2 (some FieldType.boolean)) ({ frames := 0, cells := 0, slots := 0, locals := 0 } : Room) (wPc g α N σ [.ref (α 2), .int a]) (vp_Si (fun r => r = if ¬ a < 0 ∧ ¬ σ.1 2 2 ≤ a then 1 else 0)) 0 0 (fun _ => False) := by
  refine w_enterS (by decide) (Nat.le_of_ble_eq_true rfl) (fun p e s m args below meth c X I hr hlk ls hl => ?_)
  have hx := X.1.1
  have hb := X.1.2.1
  have hl : lv_has ls 2 [(0, .ref (α 2)), (1, .int a)] := hl
  refine lv_iload_n hx hb dX1_has_0 rfl (lv_at hl 1 rfl) ?_
  refine lv_if_lt (tgt := 16) hx hb dX1_has_1 (by decide) (fun c_1 => ?_) (fun c_1 => ?_)
  ·
    refine lv_iconst (v := 0) hx hb dX1_has_16 (by decide) ?_
    exact w_zretS X hr hlk (Or.inl rfl) (by simp [c_1]) dX1_has_17
  ·
    refine lv_iload_n hx hb dX1_has_4 rfl (lv_at hl 1 rfl) ?_
    refine lv_aload_n hx hb dX1_has_5 rfl (lv_at hl 0 rfl) ?_
    refine fg1_2 X I (by omega) kfX1_18 dX1_has_6 ?_
    refine lv_icmp_ge (tgt := 16) hx hb dX1_has_9 (by decide) (fun c_9 => ?_) (fun c_9 => ?_)
    ·
      refine lv_iconst (v := 0) hx hb dX1_has_16 (by decide) ?_
      exact w_zretS X hr hlk (Or.inl rfl) (by simp [c_1, c_9]) dX1_has_17
    ·
      refine lv_iconst (v := 1) hx hb dX1_has_12 (by decide) ?_
      refine lv_goto (tgt := 17) hx hb dX1_has_13 (by decide) ?_
      exact w_zretS X hr hlk (Or.inr rfl) (by simp [c_1, c_9]) dX1_has_17
end
section
variable {l : Launch} {g : wG} {α : Nat → Nat} {N : Nat} {σ : wS} {p : Program} {e : Env} {s : State} {m : MethodId} {args : Array Value} {below : List Frame} {meth : Method} {c : Code}
set_option maxHeartbeats 4000000 in
set_option maxRecDepth 100000 in
theorem ctX3_isLoaded (l : Launch) (g : wG) (α : Nat → Nat) (N : Nat) (σ : wS) (i : Nat) (hN : 36 + 4 * i ≤ N) : Met l yX3_isLoaded (wM yX3_isLoaded cX3_isLoaded 1 (some FieldType.boolean)) ({ frames := 0, cells := 0, slots := 0, locals := 0 } : Room) (wPc g α N σ [.ref (α (32 + 4 * i))]) (vp_Si (fun r => r = if ¬ σ.1 (32 + 4 * i) 9 = (-9) then 1 else 0)) 0 0 (fun _ => False) := by
  refine w_enterS (by decide) (Nat.le_of_ble_eq_true rfl) (fun p e s m args below meth c X I hr hlk ls hl => ?_)
  have hx := X.1.1
  have hb := X.1.2.1
  have hl : lv_has ls 1 [(0, .ref (α (32 + 4 * i)))] := hl
  refine lv_aload_n hx hb dX3_isLoaded_0 rfl (lv_at hl 0 rfl) ?_
  refine fg3_9 X I i (by omega) kfX3_25 dX3_isLoaded_1 ?_
  refine lv_bipush (v := (-9)) hx hb dX3_isLoaded_4 (by decide) ?_
  refine lv_icmp_eq (tgt := 13) hx hb dX3_isLoaded_6 (by decide) (fun c_6 => ?_) (fun c_6 => ?_)
  ·
    refine lv_iconst (v := 0) hx hb dX3_isLoaded_13 (by decide) ?_
    exact w_zretS X hr hlk (Or.inl rfl) (by simp [c_6]) dX3_isLoaded_14
  ·
    refine lv_iconst (v := 1) hx hb dX3_isLoaded_9 (by decide) ?_
    refine lv_goto (tgt := 14) hx hb dX3_isLoaded_10 (by decide) ?_
    exact w_zretS X hr hlk (Or.inr rfl) (by simp [c_6]) dX3_isLoaded_14
end
section
variable {l : Launch} {g : wG} {α : Nat → Nat} {N : Nat} {σ : wS} {p : Program} {e : Env} {s : State} {m : MethodId} {args : Array Value} {below : List Frame} {meth : Method} {c : Code}
set_option maxHeartbeats 4000000 in
set_option maxRecDepth 100000 in
theorem ctX3_isDry (l : Launch) (g : wG) (α : Nat → Nat) (N : Nat) (σ : wS) (i : Nat) (hN : 36 + 4 * i ≤ N) : Met l yX3_isDry (wM yX3_isDry cX3_isDry 1 (some FieldType.boolean)) ({ frames := 1, cells := 0, slots := 0, locals := 20 } : Room) (wPc g α N σ [.ref (α (32 + 4 * i))]) (vp_Si (fun r => r = if σ.1 (32 + 4 * i) 9 = (-9) ∧ σ.1 (32 + 4 * i) 8 = 0 then 1 else 0)) 0 0 (fun _ => False) := by
  refine w_enterS (by decide) (Nat.le_of_ble_eq_true rfl) (fun p e s m args below meth c X I hr hlk ls hl => ?_)
  have hx := X.1.1
  have hb := X.1.2.1
  have hl : lv_has ls 1 [(0, .ref (α (32 + 4 * i)))] := hl
  refine lv_aload_n hx hb dX3_isDry_0 rfl (lv_at hl 0 rfl) ?_
  refine w_vSi X I (32 + 4 * i) (by omega) (wc_ship g α i _ _ _) rfl (As := []) (rest := []) (ctX3_isLoaded l g α N σ _ (by first | assumption | omega)) (wM_V kmX3_43 ki_X3_isLoaded ks_X3_isLoaded kn_X3 kc_X3_isLoaded) rfl rfl (n := 0) (by decide +kernel) rfl ⟨by decide, by decide⟩ hl.1 rfl (Nat.le_of_ble_eq_true rfl) ⟨Nat.zero_le _, Nat.zero_le _⟩ dX3_isDry_1 (fun r_1 q_1 => ?_)
  by_cases p_1 : ¬ σ.1 (32 + 4 * i) 9 = (-9)
  ·
    obtain rfl : r_1 = 1 := Eq.trans q_1 (if_pos p_1)
    refine lv_if_ne (tgt := 18) hx hb dX3_isDry_4 (by decide) (fun _ => ?_) (fun cc => absurd cc (by decide))
    refine lv_iconst (v := 0) hx hb dX3_isDry_18 (by decide) ?_
    exact w_zretS X hr hlk (Or.inl rfl) (by simp [p_1]) dX3_isDry_19
  ·
    obtain rfl : r_1 = 0 := Eq.trans q_1 (if_neg p_1)
    refine lv_if_ne (tgt := 18) hx hb dX3_isDry_4 (by decide) (fun cc => absurd cc (by decide)) (fun _ => ?_)
    refine lv_aload_n hx hb dX3_isDry_7 rfl (lv_at hl 0 rfl) ?_
    refine fg3_8 X I i (by omega) kfX3_40 dX3_isDry_8 ?_
    refine lv_if_ne (tgt := 18) hx hb dX3_isDry_11 (by decide) (fun c_11 => ?_) (fun c_11 => ?_)
    ·
      refine lv_iconst (v := 0) hx hb dX3_isDry_18 (by decide) ?_
      exact w_zretS X hr hlk (Or.inl rfl) (by simp [p_1, c_11]) dX3_isDry_19
    ·
      refine lv_iconst (v := 1) hx hb dX3_isDry_14 (by decide) ?_
      refine lv_goto (tgt := 19) hx hb dX3_isDry_15 (by decide) ?_
      exact w_zretS X hr hlk (Or.inr rfl) (by simp [p_1, c_11]) dX3_isDry_19
end
section
variable {l : Launch} {g : wG} {α : Nat → Nat} {N : Nat} {σ : wS} {p : Program} {e : Env} {s : State} {m : MethodId} {args : Array Value} {below : List Frame} {meth : Method} {c : Code}
set_option maxHeartbeats 4000000 in
set_option maxRecDepth 100000 in
theorem ctX3_agreed (l : Launch) (g : wG) (α : Nat → Nat) (N : Nat) (σ : wS) (i k : Nat) (hN : 36 + 4 * i ≤ N) (hk : k < 6) : Met l yX3_agreed (wM yX3_agreed cX3_agreed 2 (some FieldType.boolean)) ({ frames := 0, cells := 0, slots := 0, locals := 0 } : Room) (wPc g α N σ [.ref (α (32 + 4 * i)), .int (nI k)]) (vp_Si (fun r => r = if σ.1 (34 + 4 * i) k = 1 then 1 else 0)) 0 0 (fun _ => False) := by
  refine w_enterS (by decide) (Nat.le_of_ble_eq_true rfl) (fun p e s m args below meth c X I hr hlk ls hl => ?_)
  have hx := X.1.1
  have hb := X.1.2.1
  have hl : lv_has ls 2 [(0, .ref (α (32 + 4 * i))), (1, .int (nI k))] := hl
  refine lv_aload_n hx hb dX3_agreed_0 rfl (lv_at hl 0 rfl) ?_
  refine fg3_4 X I i (by omega) kfX3_15 dX3_agreed_1 ?_
  refine lv_iload_n hx hb dX3_agreed_4 rfl (lv_at hl 1 rfl) ?_
  refine w_ld X I (34 + 4 * i) (by omega) (n := 6) (k := k) (fun _ _ _ => wc_terms g α i _ _ _) rfl (by omega) (by decide) dX3_agreed_5 ?_
  refine lv_iconst (v := 1) hx hb dX3_agreed_6 (by decide) ?_
  refine lv_icmp_ne (tgt := 14) hx hb dX3_agreed_7 (by decide) (fun c_7 => ?_) (fun c_7 => ?_)
  ·
    refine lv_iconst (v := 0) hx hb dX3_agreed_14 (by decide) ?_
    exact w_zretS X hr hlk (Or.inl rfl) (by simp [c_7]) dX3_agreed_15
  ·
    refine lv_iconst (v := 1) hx hb dX3_agreed_10 (by decide) ?_
    refine lv_goto (tgt := 15) hx hb dX3_agreed_11 (by decide) ?_
    exact w_zretS X hr hlk (Or.inr rfl) (by simp [c_7]) dX3_agreed_15
end
section
variable {l : Launch} {g : wG} {α : Nat → Nat} {N : Nat} {σ : wS} {p : Program} {e : Env} {s : State} {m : MethodId} {args : Array Value} {below : List Frame} {meth : Method} {c : Code}
/-- a TURN: by the arrival, the number, the kind, the day -/
def tnF (ar nu ki day : Int32) : Int32 := if ki = 0 then 10 * ar + nu else if ki = 1 then 10 * ar + nu - 500 else if 9 ≤ day - ar then 10 * ar + nu - 500 else 10 * ar + nu - 500 + 5000
set_option maxHeartbeats 4000000 in
set_option maxRecDepth 100000 in
theorem ctX3_turnOn (l : Launch) (g : wG) (α : Nat → Nat) (N : Nat) (σ : wS) (i : Nat) (a : Int32) (hN : 36 + 4 * i ≤ N) : Met l yX3_turnOn (wM yX3_turnOn cX3_turnOn 4 (some FieldType.int)) ({ frames := 0, cells := 0, slots := 0, locals := 0 } : Room) (wPc g α N σ [.ref (α (32 + 4 * i)), .int a]) (vp_Si (fun r => r = tnF (σ.1 (32 + 4 * i) 2) (σ.1 (32 + 4 * i) 0) (σ.1 (32 + 4 * i) 1) a)) 0 0 (fun _ => False) := by
  refine w_enterS (by decide) (Nat.le_of_ble_eq_true rfl) (fun p e s m args below meth c X I hr hlk ls hl => ?_)
  have hx := X.1.1
  have hb := X.1.2.1
  have hl : lv_has ls 4 [(0, .ref (α (32 + 4 * i))), (1, .int a)] := hl
  refine lv_bipush (v := 10) hx hb dX3_turnOn_0 (by decide) ?_
  refine lv_aload_n hx hb dX3_turnOn_2 rfl (lv_at hl 0 rfl) ?_
  refine fg3_2 X I i (by omega) kfX3_34 dX3_turnOn_3 ?_
  refine lv_imul hx hb dX3_turnOn_6 ?_
  refine lv_aload_n hx hb dX3_turnOn_7 rfl (lv_at hl 0 rfl) ?_
  refine fg3_0 X I i (by omega) kfX3_28 dX3_turnOn_8 ?_
  refine lv_iadd hx hb dX3_turnOn_11 ?_
  refine lv_istore_n (lv' := [(2, .int ((10 * (σ.1 (32 + 4 * i) 2)) + (σ.1 (32 + 4 * i) 0))), (0, .ref (α (32 + 4 * i))), (1, .int a)]) hx hb dX3_turnOn_12 rfl hl (by decide) rfl (fun ls hl => ?_)
  refine lv_aload_n hx hb dX3_turnOn_13 rfl (lv_at hl 1 rfl) ?_
  refine fg3_1 X I i (by omega) kfX3_31 dX3_turnOn_14 ?_
  refine lv_if_ne (tgt := 22) hx hb dX3_turnOn_17 (by decide) (fun c_17 => ?_) (fun c_17 => ?_)
  ·
    refine lv_iload_n hx hb dX3_turnOn_22 rfl (lv_at hl 0 rfl) ?_
    refine lv_sipush (v := 500) hx hb dX3_turnOn_23 (by decide) ?_
    refine lv_isub hx hb dX3_turnOn_26 ?_
    refine lv_istore_n (lv' := [(3, .int (((10 * (σ.1 (32 + 4 * i) 2)) + (σ.1 (32 + 4 * i) 0)) - 500)), (2, .int ((10 * (σ.1 (32 + 4 * i) 2)) + (σ.1 (32 + 4 * i) 0))), (0, .ref (α (32 + 4 * i))), (1, .int a)]) hx hb dX3_turnOn_27 rfl hl (by decide) rfl (fun ls hl => ?_)
    refine lv_aload_n hx hb dX3_turnOn_28 rfl (lv_at hl 2 rfl) ?_
    refine fg3_1 X I i (by omega) kfX3_31 dX3_turnOn_29 ?_
    refine lv_iconst (v := 1) hx hb dX3_turnOn_32 (by decide) ?_
    refine lv_icmp_eq (tgt := 47) hx hb dX3_turnOn_33 (by decide) (fun c_33 => ?_) (fun c_33 => ?_)
    ·
      refine lv_iload_n hx hb dX3_turnOn_47 rfl (lv_at hl 0 rfl) ?_
      exact w_iretS X hr hlk (by simp [tnF, c_17, c_33]) dX3_turnOn_48
    ·
      refine lv_iload_n hx hb dX3_turnOn_36 rfl (lv_at hl 3 rfl) ?_
      refine lv_aload_n hx hb dX3_turnOn_37 rfl (lv_at hl 2 rfl) ?_
      refine fg3_2 X I i (by omega) kfX3_34 dX3_turnOn_38 ?_
      refine lv_isub hx hb dX3_turnOn_41 ?_
      refine lv_bipush (v := 9) hx hb dX3_turnOn_42 (by decide) ?_
      refine lv_icmp_lt (tgt := 49) hx hb dX3_turnOn_44 (by decide) (fun c_44 => ?_) (fun c_44 => ?_)
      ·
        refine lv_iload_n hx hb dX3_turnOn_49 rfl (lv_at hl 0 rfl) ?_
        refine lv_sipush (v := 5000) hx hb dX3_turnOn_50 (by decide) ?_
        refine lv_iadd hx hb dX3_turnOn_53 ?_
        exact w_iretS X hr hlk (by simp [tnF, c_17, c_33, c_44]) dX3_turnOn_54
      ·
        refine lv_iload_n hx hb dX3_turnOn_47 rfl (lv_at hl 0 rfl) ?_
        exact w_iretS X hr hlk (by simp [tnF, c_17, c_33, c_44]) dX3_turnOn_48
  ·
    refine lv_iload_n hx hb dX3_turnOn_20 rfl (lv_at hl 0 rfl) ?_
    exact w_iretS X hr hlk (by simp [tnF, c_17]) dX3_turnOn_21
end
section
variable {l : Launch} {g : wG} {α : Nat → Nat} {N : Nat} {σ : wS} {p : Program} {e : Env} {s : State} {m : MethodId} {args : Array Value} {below : List Frame} {meth : Method} {c : Code}
set_option maxHeartbeats 4000000 in
set_option maxRecDepth 100000 in
theorem ctX4_chutesShut (l : Launch) (g : wG) (α : Nat → Nat) (N : Nat) (σ : wS) (k : Nat) (hN : 32 ≤ N) (hk : k < 201) : Met l yX4_chutesShut (wM yX4_chutesShut cX4_chutesShut 2 (some FieldType.boolean)) ({ frames := 0, cells := 0, slots := 0, locals := 0 } : Room) (wPc g α N σ [.ref (α 0), .int (nI k)]) (vp_Si (fun r => r = if 4 < σ.1 1 k then 1 else 0)) 0 0 (fun _ => False) := by
  refine w_enterS (by decide) (Nat.le_of_ble_eq_true rfl) (fun p e s m args below meth c X I hr hlk ls hl => ?_)
  have hx := X.1.1
  have hb := X.1.2.1
  have hl : lv_has ls 2 [(0, .ref (α 0)), (1, .int (nI k))] := hl
  refine lv_aload_n hx hb dX4_chutesShut_0 rfl (lv_at hl 0 rfl) ?_
  refine fg4_0 X I (by omega) kfX4_9 dX4_chutesShut_1 ?_
  refine lv_iload_n hx hb dX4_chutesShut_4 rfl (lv_at hl 1 rfl) ?_
  refine w_ld X I 1 (by omega) (n := 201) (k := k) (fun _ _ _ => rfl) rfl (by omega) (by decide) dX4_chutesShut_5 ?_
  refine lv_iconst (v := 4) hx hb dX4_chutesShut_6 (by decide) ?_
  refine lv_icmp_le (tgt := 14) hx hb dX4_chutesShut_7 (by decide) (fun c_7 => ?_) (fun c_7 => ?_)
  ·
    refine lv_iconst (v := 0) hx hb dX4_chutesShut_14 (by decide) ?_
    exact w_zretS X hr hlk (Or.inl rfl) (by simp [c_7]) dX4_chutesShut_15
  ·
    refine lv_iconst (v := 1) hx hb dX4_chutesShut_10 (by decide) ?_
    refine lv_goto (tgt := 15) hx hb dX4_chutesShut_11 (by decide) ?_
    exact w_zretS X hr hlk (Or.inr rfl) (by simp [c_7]) dX4_chutesShut_15
end
section
variable {l : Launch} {g : wG} {α : Nat → Nat} {N : Nat} {σ : wS} {p : Program} {e : Env} {s : State} {m : MethodId} {args : Array Value} {below : List Frame} {meth : Method} {c : Code}
set_option maxHeartbeats 4000000 in
set_option maxRecDepth 100000 in
theorem ctX4_lightersShut (l : Launch) (g : wG) (α : Nat → Nat) (N : Nat) (σ : wS) (k : Nat) (hN : 32 ≤ N) (hk : k < 201) : Met l yX4_lightersShut (wM yX4_lightersShut cX4_lightersShut 2 (some FieldType.boolean)) ({ frames := 0, cells := 0, slots := 0, locals := 0 } : Room) (wPc g α N σ [.ref (α 0), .int (nI k)]) (vp_Si (fun r => r = if 7 < σ.1 1 k then 1 else 0)) 0 0 (fun _ => False) := by
  refine w_enterS (by decide) (Nat.le_of_ble_eq_true rfl) (fun p e s m args below meth c X I hr hlk ls hl => ?_)
  have hx := X.1.1
  have hb := X.1.2.1
  have hl : lv_has ls 2 [(0, .ref (α 0)), (1, .int (nI k))] := hl
  refine lv_aload_n hx hb dX4_lightersShut_0 rfl (lv_at hl 0 rfl) ?_
  refine fg4_0 X I (by omega) kfX4_9 dX4_lightersShut_1 ?_
  refine lv_iload_n hx hb dX4_lightersShut_4 rfl (lv_at hl 1 rfl) ?_
  refine w_ld X I 1 (by omega) (n := 201) (k := k) (fun _ _ _ => rfl) rfl (by omega) (by decide) dX4_lightersShut_5 ?_
  refine lv_bipush (v := 7) hx hb dX4_lightersShut_6 (by decide) ?_
  refine lv_icmp_le (tgt := 15) hx hb dX4_lightersShut_8 (by decide) (fun c_8 => ?_) (fun c_8 => ?_)
  ·
    refine lv_iconst (v := 0) hx hb dX4_lightersShut_15 (by decide) ?_
    exact w_zretS X hr hlk (Or.inl rfl) (by simp [c_8]) dX4_lightersShut_16
  ·
    refine lv_iconst (v := 1) hx hb dX4_lightersShut_11 (by decide) ?_
    refine lv_goto (tgt := 16) hx hb dX4_lightersShut_12 (by decide) ?_
    exact w_zretS X hr hlk (Or.inr rfl) (by simp [c_8]) dX4_lightersShut_16
end
section
variable {l : Launch} {g : wG} {α : Nat → Nat} {N : Nat} {σ : wS} {p : Program} {e : Env} {s : State} {m : MethodId} {args : Array Value} {below : List Frame} {meth : Method} {c : Code}
set_option maxHeartbeats 4000000 in
set_option maxRecDepth 100000 in
theorem lpX1_worthOf_4 (i ly : Nat) (X : wX p s m args c cX1_worthOf 4 RX1 g) (I : wI g α N (fun _ => True) s.heap s.heap [] σ) (hr : meth.sig.returnType = (some FieldType.int)) (hlk : meth.locks = false) (hN : 36 + 4 * i ≤ N) (hz : σ.1 2 2 = nI ly) (hly : ly ≤ 6) : ∀ (fu : Nat) (k : Nat) (acc : Int32), ly + 1 ≤ k + fu → k ≤ ly → acc = smI (fun k => σ.1 (33 + 4 * i) k * σ.1 4 k) k → ∀ ls : Array Slot, lv_has ls 4 [(0, .ref (α 2)), (1, .ref (α (33 + 4 * i))), (2, .int acc), (3, .int (nI k))] → W p l e ({ frames := 0, cells := 0, slots := 0, locals := 0 } : Room) s m args below meth c s.heap [] 0 0 (MQ below (vp_Si (fun r => r = smI (fun k => σ.1 (33 + 4 * i) k * σ.1 4 k) ly)) args s 0 0 (fun _ => False)) (F0 m 4 ls []) := by
  have hx := X.1.1
  have hb := X.1.2.1
  intro fu
  induction fu with
  | zero =>
    intro k acc hfu hk ha
    exact absurd hfu (by omega)
  | succ fu ih =>
    intro k acc hfu hk ha ls hl
    refine lv_iload_n hx hb dX1_worthOf_4 rfl (lv_at hl 3 rfl) ?_
    refine lv_aload_n hx hb dX1_worthOf_5 rfl (lv_at hl 0 rfl) ?_
    refine fg1_2 X I (by omega) kfX1_18 dX1_worthOf_6 ?_
    refine w_eqi hz ?_
    refine lv_icmp_ge (tgt := 31) hx hb dX1_worthOf_9 (by decide) (fun c_9 => ?_) (fun c_9 => ?_)
    ·
      have e : k = ly := by have := nI_le' c_9 (by omega) (by omega); omega
      refine lv_iload_n hx hb dX1_worthOf_31 rfl (lv_at hl 2 rfl) ?_
      exact w_iretS X hr hlk (by rw [ha, e]) dX1_worthOf_32
    ·
      have hlt : k < ly := by
        rcases Nat.lt_or_ge k ly with q | q
        · exact q
        · exact absurd (nI_le q (by omega)) c_9
      refine lv_iload_n hx hb dX1_worthOf_12 rfl (lv_at hl 2 rfl) ?_
      refine lv_aload_n hx hb dX1_worthOf_13 rfl (lv_at hl 1 rfl) ?_
      refine lv_iload_n hx hb dX1_worthOf_14 rfl (lv_at hl 3 rfl) ?_
      refine w_ld X I (33 + 4 * i) (by omega) (n := 6) (k := k) (fun _ _ _ => wc_cargo g α i _ _ _) rfl (by omega) (by decide) dX1_worthOf_15 ?_
      refine lv_aload_n hx hb dX1_worthOf_16 rfl (lv_at hl 0 rfl) ?_
      refine fg1_1 X I (by omega) kfX1_15 dX1_worthOf_17 ?_
      refine lv_iload_n hx hb dX1_worthOf_20 rfl (lv_at hl 3 rfl) ?_
      refine w_ld X I 4 (by omega) (n := 6) (k := k) (fun _ _ _ => rfl) rfl (by omega) (by decide) dX1_worthOf_21 ?_
      refine lv_imul hx hb dX1_worthOf_22 ?_
      refine lv_iadd hx hb dX1_worthOf_23 ?_
      refine lv_istore_n (lv' := [(2, .int (acc + ((σ.1 (33 + 4 * i) k) * (σ.1 4 k)))), (0, .ref (α 2)), (1, .ref (α (33 + 4 * i))), (3, .int (nI k))]) hx hb dX1_worthOf_24 rfl hl (by decide) rfl (fun ls hl => ?_)
      refine lv_iinc (v := nI (k + 1)) (lv' := [(3, .int (nI (k + 1))), (2, .int (acc + ((σ.1 (33 + 4 * i) k) * (σ.1 4 k)))), (0, .ref (α 2)), (1, .ref (α (33 + 4 * i)))]) hx hb dX1_worthOf_25 hl (k := 3) rfl (nI_1 _) (by decide) rfl (fun ls hl => ?_)
      refine lv_goto (tgt := 4) hx hb dX1_worthOf_28 (by decide) ?_
      exact ih (k + 1) (acc + ((σ.1 (33 + 4 * i) k) * (σ.1 4 k))) (by omega) (by omega) (by rw [ha]; rfl) ls (lv_sub hl [2, 3, 1, 0] rfl)
set_option maxHeartbeats 4000000 in
set_option maxRecDepth 100000 in
theorem ctX1_worthOf (l : Launch) (g : wG) (α : Nat → Nat) (N : Nat) (σ : wS) (i ly : Nat) (hN : 36 + 4 * i ≤ N) (hz : σ.1 2 2 = nI ly) (hly : ly ≤ 6) : Met l yX1_worthOf (wM yX1_worthOf cX1_worthOf 4 (some FieldType.int)) ({ frames := 0, cells := 0, slots := 0, locals := 0 } : Room) (wPc g α N σ [.ref (α 2), .ref (α (33 + 4 * i))]) (vp_Si (fun r => r = smI (fun k => σ.1 (33 + 4 * i) k * σ.1 4 k) ly)) 0 0 (fun _ => False) := by
  refine w_enterS (by decide) (Nat.le_of_ble_eq_true rfl) (fun p e s m args below meth c X I hr hlk ls hl => ?_)
  have hx := X.1.1
  have hb := X.1.2.1
  have hl : lv_has ls 4 [(0, .ref (α 2)), (1, .ref (α (33 + 4 * i)))] := hl
  refine lv_iconst (v := 0) hx hb dX1_worthOf_0 (by decide) ?_
  refine lv_istore_n (lv' := [(2, .int 0), (0, .ref (α 2)), (1, .ref (α (33 + 4 * i)))]) hx hb dX1_worthOf_1 rfl hl (by decide) rfl (fun ls hl => ?_)
  refine lv_iconst (v := 0) hx hb dX1_worthOf_2 (by decide) ?_
  refine lv_istore_n (lv' := [(3, .int 0), (2, .int 0), (0, .ref (α 2)), (1, .ref (α (33 + 4 * i)))]) hx hb dX1_worthOf_3 rfl hl (by decide) rfl (fun ls hl => ?_)
  exact lpX1_worthOf_4 i ly X I hr hlk hN hz hly  (ly + 1) 0 0 (by omega) (by omega) rfl ls (lv_sub hl [2, 3, 1, 0] rfl)
end
section
variable {l : Launch} {g : wG} {α : Nat → Nat} {N : Nat} {σ : wS} {p : Program} {e : Env} {s : State} {m : MethodId} {args : Array Value} {below : List Frame} {meth : Method} {c : Code}
set_option maxHeartbeats 4000000 in
set_option maxRecDepth 100000 in
theorem ctX5_isLoaded (l : Launch) (g : wG) (α : Nat → Nat) (N : Nat) (σ : wS) (i : Nat) (hN : 32 ≤ N) (hi : i < 10) : Met l yX5_isLoaded (wM yX5_isLoaded cX5_isLoaded 2 (some FieldType.boolean)) ({ frames := 0, cells := 0, slots := 0, locals := 0 } : Room) (wPc g α N σ [.ref (α 14), .int (nI i)]) (vp_Si (fun r => r = if ¬ σ.1 22 i = (-9) then 1 else 0)) 0 0 (fun _ => False) := by
  refine w_enterS (by decide) (Nat.le_of_ble_eq_true rfl) (fun p e s m args below meth c X I hr hlk ls hl => ?_)
  have hx := X.1.1
  have hb := X.1.2.1
  have hl : lv_has ls 2 [(0, .ref (α 14)), (1, .int (nI i))] := hl
  refine lv_aload_n hx hb dX5_isLoaded_0 rfl (lv_at hl 0 rfl) ?_
  refine fg5_12 X I (by omega) kfX5_31 dX5_isLoaded_1 ?_
  refine lv_iload_n hx hb dX5_isLoaded_4 rfl (lv_at hl 1 rfl) ?_
  refine w_ld X I 22 (by omega) (n := 10) (k := i) (fun _ _ _ => rfl) rfl (by omega) (by decide) dX5_isLoaded_5 ?_
  refine lv_bipush (v := (-9)) hx hb dX5_isLoaded_6 (by decide) ?_
  refine lv_icmp_eq (tgt := 15) hx hb dX5_isLoaded_8 (by decide) (fun c_8 => ?_) (fun c_8 => ?_)
  ·
    refine lv_iconst (v := 0) hx hb dX5_isLoaded_15 (by decide) ?_
    exact w_zretS X hr hlk (Or.inl rfl) (by simp [c_8]) dX5_isLoaded_16
  ·
    refine lv_iconst (v := 1) hx hb dX5_isLoaded_11 (by decide) ?_
    refine lv_goto (tgt := 16) hx hb dX5_isLoaded_12 (by decide) ?_
    exact w_zretS X hr hlk (Or.inr rfl) (by simp [c_8]) dX5_isLoaded_16
end
end
section
section
variable {l : Launch} {g : wG} {α : Nat → Nat} {N : Nat} {σ : wS} {p : Program} {e : Env} {s : State} {m : MethodId} {args : Array Value} {below : List Frame} {meth : Method} {c : Code}
set_option maxHeartbeats 4000000 in
set_option maxRecDepth 100000 in
theorem ctX4_left (l : Launch) (g : wG) (α : Nat → Nat) (N : Nat) (σ : wS) (a : Int32) (ly : Nat) (hN : 32 ≤ N) (hz : σ.1 2 2 = nI ly) (hly : ly ≤ 6) : Met l yX4_left (wM yX4_left cX4_left 2 (some FieldType.int)) ({ frames := 1, cells := 0, slots := 0, locals := 21 } : Room) (wPc g α N σ [.ref (α 0), .int a]) (vp_Si (fun r => r = spq ly a (-1) (σ.1 3))) 0 0 (fun _ => False) := by
  refine w_enterS (by decide) (Nat.le_of_ble_eq_true rfl) (fun p e s m args below meth c X I hr hlk ls hl => ?_)
  have hx := X.1.1
  have hb := X.1.2.1
  have hl : lv_has ls 2 [(0, .ref (α 0)), (1, .int a)] := hl
  refine lv_aload_n hx hb dX4_left_0 rfl (lv_at hl 0 rfl) ?_
  refine fg4_1 X I (by omega) kfX4_16 dX4_left_1 ?_
  refine lv_iload_n hx hb dX4_left_4 rfl (lv_at hl 1 rfl) ?_
  refine w_vSi X I 2 (by omega) rfl rfl (As := [.int a]) (rest := []) (ctX1_has l g α N σ _ (by first | assumption | omega)) (wM_V kmX4_68 ki_X1_has ks_X1_has kn_X1 kc_X1_has) rfl rfl (n := 1) (by decide +kernel) rfl ⟨by decide, by decide⟩ hl.1 rfl (Nat.le_of_ble_eq_true rfl) ⟨Nat.zero_le _, Nat.zero_le _⟩ dX4_left_5 (fun r_5 q_5 => ?_)
  by_cases p_5 : ¬ a < 0 ∧ ¬ σ.1 2 2 ≤ a
  ·
    obtain rfl : r_5 = 1 := Eq.trans q_5 (if_pos p_5)
    rw [hz] at p_5
    obtain ⟨k, hk, rfl⟩ := bt_ok (by omega) p_5
    refine lv_if_eq (tgt := 23) hx hb dX4_left_8 (by decide) (fun cc => absurd cc (by decide)) (fun _ => ?_)
    refine lv_aload_n hx hb dX4_left_11 rfl (lv_at hl 0 rfl) ?_
    refine fg4_1 X I (by omega) kfX4_16 dX4_left_12 ?_
    refine fg1_0 X I (by omega) kfX4_72 dX4_left_15 ?_
    refine lv_iload_n hx hb dX4_left_18 rfl (lv_at hl 1 rfl) ?_
    refine w_ld X I 3 (by omega) (n := 6) (k := k) (fun _ _ _ => rfl) rfl (by omega) (by decide) dX4_left_19 ?_
    refine lv_goto (tgt := 24) hx hb dX4_left_20 (by decide) ?_
    exact w_iretS X hr hlk (by first | exact (spq_ok hk (by omega)).symm | exact (spq_bad (bt_bad p_5)).symm) dX4_left_24
  ·
    obtain rfl : r_5 = 0 := Eq.trans q_5 (if_neg p_5)
    rw [hz] at p_5
    refine lv_if_eq (tgt := 23) hx hb dX4_left_8 (by decide) (fun _ => ?_) (fun cc => absurd cc (by decide))
    refine lv_iconst (v := (-1)) hx hb dX4_left_23 (by decide) ?_
    exact w_iretS X hr hlk (by first | exact (spq_ok hk (by omega)).symm | exact (spq_bad (bt_bad p_5)).symm) dX4_left_24
end
section
variable {l : Launch} {g : wG} {α : Nat → Nat} {N : Nat} {σ : wS} {p : Program} {e : Env} {s : State} {m : MethodId} {args : Array Value} {below : List Frame} {meth : Method} {c : Code}
set_option maxHeartbeats 4000000 in
set_option maxRecDepth 100000 in
theorem ctX4_shipNumbered (l : Launch) (g : wG) (α : Nat → Nat) (N : Nat) (σ : wS) (a : Int32) (n : Nat) (hn : σ.1 0 7 = nI n) (hn10 : n ≤ 10) (hN : 32 + 4 * n ≤ N) (hR : ∀ k, k < n → σ.2.2 5 k = some (32 + 4 * k)) : Met l yX4_shipNumbered (wM yX4_shipNumbered cX4_shipNumbered 2 (some (FieldType.object "RockRoad$Ship"))) ({ frames := 0, cells := 0, slots := 0, locals := 0 } : Room) (wPc g α N σ [.ref (α 0), .int a]) (va_Sq (fun r => (∀ k, k < n → a = nI k → r = some (α (32 + 4 * k))) ∧ ((a < 0 ∨ nI n ≤ a) → r = none))) 0 0 (fun _ => False) := by
  refine w_enterS (by decide) (Nat.le_of_ble_eq_true rfl) (fun p e s m args below meth c X I hr hlk ls hl => ?_)
  have hx := X.1.1
  have hb := X.1.2.1
  have hl : lv_has ls 2 [(0, .ref (α 0)), (1, .int a)] := hl
  refine lv_iload_n hx hb dX4_shipNumbered_0 rfl (lv_at hl 1 rfl) ?_
  refine lv_if_lt (tgt := 21) hx hb dX4_shipNumbered_1 (by decide) (fun c_1 => ?_) (fun c_1 => ?_)
  ·
    refine lv_null hx hb dX4_shipNumbered_21 ?_
    exact w_aretS (r := none) rfl X hr hlk (by first | exact ⟨fun k2 hk2 e => by rw [(nI_eq (by omega) (by omega)).mp e], fun z => absurd z (nbad hk (by omega))⟩ | exact ⟨fun k2 hk2 e => absurd (Or.inl c_1) (by rw [e]; exact nbad hk2 (by omega)), fun _ => rfl⟩ | exact ⟨fun k2 hk2 e => absurd (Or.inr c_9) (by rw [e]; exact nbad hk2 (by omega)), fun _ => rfl⟩) dX4_shipNumbered_22
  ·
    refine lv_iload_n hx hb dX4_shipNumbered_4 rfl (lv_at hl 1 rfl) ?_
    refine lv_aload_n hx hb dX4_shipNumbered_5 rfl (lv_at hl 0 rfl) ?_
    refine fg4_7 X I (by omega) kfX4_47 dX4_shipNumbered_6 ?_
    refine w_eqi hn ?_
    refine lv_icmp_ge (tgt := 21) hx hb dX4_shipNumbered_9 (by decide) (fun c_9 => ?_) (fun c_9 => ?_)
    ·
      refine lv_null hx hb dX4_shipNumbered_21 ?_
      exact w_aretS (r := none) rfl X hr hlk (by first | exact ⟨fun k2 hk2 e => by rw [(nI_eq (by omega) (by omega)).mp e], fun z => absurd z (nbad hk (by omega))⟩ | exact ⟨fun k2 hk2 e => absurd (Or.inl c_1) (by rw [e]; exact nbad hk2 (by omega)), fun _ => rfl⟩ | exact ⟨fun k2 hk2 e => absurd (Or.inr c_9) (by rw [e]; exact nbad hk2 (by omega)), fun _ => rfl⟩) dX4_shipNumbered_22
    ·
      obtain ⟨k, hk, rfl⟩ := bt_ok (n := n) (by omega) ⟨c_1, c_9⟩
      refine lv_aload_n hx hb dX4_shipNumbered_12 rfl (lv_at hl 0 rfl) ?_
      refine fg4_2 X I (by omega) kfX4_22 dX4_shipNumbered_13 ?_
      refine lv_iload_n hx hb dX4_shipNumbered_16 rfl (lv_at hl 1 rfl) ?_
      refine w_ldq X I 5 (by omega) (n := 10) (k := k) (fun _ _ _ => rfl) rfl (by omega) (by decide) (hR k hk) dX4_shipNumbered_17 ?_
      refine lv_goto (tgt := 22) hx hb dX4_shipNumbered_18 (by decide) ?_
      exact w_aretS (r := (some (α (32 + 4 * k)))) rfl X hr hlk (by first | exact ⟨fun k2 hk2 e => by rw [(nI_eq (by omega) (by omega)).mp e], fun z => absurd z (nbad hk (by omega))⟩ | exact ⟨fun k2 hk2 e => absurd (Or.inl c_1) (by rw [e]; exact nbad hk2 (by omega)), fun _ => rfl⟩ | exact ⟨fun k2 hk2 e => absurd (Or.inr c_9) (by rw [e]; exact nbad hk2 (by omega)), fun _ => rfl⟩) dX4_shipNumbered_22
end
section
variable {l : Launch} {g : wG} {α : Nat → Nat} {N : Nat} {σ : wS} {p : Program} {e : Env} {s : State} {m : MethodId} {args : Array Value} {below : List Frame} {meth : Method} {c : Code}
set_option maxHeartbeats 4000000 in
set_option maxRecDepth 100000 in
theorem ctX4_cargo (l : Launch) (g : wG) (α : Nat → Nat) (N : Nat) (σ : wS) (a b : Int32) (n ly : Nat) (hn : σ.1 0 7 = nI n) (hn10 : n ≤ 10) (hN : 32 + 4 * n ≤ N) (hz : σ.1 2 2 = nI ly) (hly : ly ≤ 6) (hR : ∀ k, k < n → σ.2.2 5 k = some (32 + 4 * k)) : Met l yX4_cargo (wM yX4_cargo cX4_cargo 4 (some FieldType.int)) ({ frames := 1, cells := 0, slots := 0, locals := 21 } : Room) (wPc g α N σ [.ref (α 0), .int a, .int b]) (vp_Si (fun r => r = spq n a (-1) (fun i => spq ly b (-1) (σ.1 (33 + 4 * i))))) 0 0 (fun _ => False) := by
  refine w_enterS (by decide) (Nat.le_of_ble_eq_true rfl) (fun p e s m args below meth c X I hr hlk ls hl => ?_)
  have hx := X.1.1
  have hb := X.1.2.1
  have hl : lv_has ls 4 [(0, .ref (α 0)), (1, .int a), (2, .int b)] := hl
  refine lv_aload_n hx hb dX4_cargo_0 rfl (lv_at hl 0 rfl) ?_
  refine lv_iload_n hx hb dX4_cargo_1 rfl (lv_at hl 1 rfl) ?_
  refine w_vSq X I 0 (by omega) rfl rfl (As := [.int a]) (rest := []) (ctX4_shipNumbered l g α N σ a n hn hn10 hN hR) (wM_V kmX4_78 ki_X4_shipNumbered ks_X4_shipNumbered kn_X4 kc_X4_shipNumbered) rfl rfl (n := 1) (by decide +kernel) rfl ⟨by decide, by decide⟩ hl.1 rfl (Nat.le_of_ble_eq_true rfl) ⟨Nat.zero_le _, Nat.zero_le _⟩ dX4_cargo_2 (fun r_2 q_2 => ?_)
  replace q_2 : (∀ k, k < n → a = nI k → r_2 = some (α (32 + 4 * k))) ∧ ((a < 0 ∨ nI n ≤ a) → r_2 = none) := q_2
  rcases ix2 a (n := n) (by omega) with hbad | ⟨k, hk, rfl⟩
  ·
    obtain rfl : r_2 = none := q_2.2 hbad
    refine w_eqv (y := .null) rfl ?_
    refine lv_astore_nN (lv' := [(3, .null), (0, .ref (α 0)), (1, .int a), (2, .int b)]) hx hb dX4_cargo_5 rfl hl (by decide) rfl (fun ls hl => ?_)
    refine lv_aload_nN hx hb dX4_cargo_6 rfl (lv_at hl 0 rfl) ?_
    refine lv_ifnullN (tgt := 21) hx hb dX4_cargo_7 (by decide) ?_
    refine lv_iconst (v := (-1)) hx hb dX4_cargo_21 (by decide) ?_
    exact w_iretS X hr hlk (by first | exact (spq_bad hbad).symm | exact ((spq_ok hk (by omega)).trans (spq_ok hj (by omega))).symm | exact ((spq_ok hk (by omega)).trans (spq_bad (bt_bad p_15))).symm) dX4_cargo_22
  ·
    obtain rfl : r_2 = some (α (32 + 4 * k)) := q_2.1 k hk rfl
    clear q_2
    refine w_eqv (y := .ref (α (32 + 4 * k))) rfl ?_
    refine lv_astore_n (lv' := [(3, .ref (α (32 + 4 * k))), (0, .ref (α 0)), (1, .int (nI k)), (2, .int b)]) hx hb dX4_cargo_5 rfl hl (by decide) rfl (fun ls hl => ?_)
    refine lv_aload_n hx hb dX4_cargo_6 rfl (lv_at hl 0 rfl) ?_
    refine lv_ifnull hx hb dX4_cargo_7 ?_
    refine lv_aload_n hx hb dX4_cargo_10 rfl (lv_at hl 1 rfl) ?_
    refine fg4_1 X I (by omega) kfX4_16 dX4_cargo_11 ?_
    refine lv_iload_n hx hb dX4_cargo_14 rfl (lv_at hl 3 rfl) ?_
    refine w_vSi X I 2 (by omega) rfl rfl (As := [.int b]) (rest := []) (ctX1_has l g α N σ _ (by first | assumption | omega)) (wM_V kmX4_68 ki_X1_has ks_X1_has kn_X1 kc_X1_has) rfl rfl (n := 1) (by decide +kernel) rfl ⟨by decide, by decide⟩ hl.1 rfl (Nat.le_of_ble_eq_true rfl) ⟨Nat.zero_le _, Nat.zero_le _⟩ dX4_cargo_15 (fun r_15 q_15 => ?_)
    by_cases p_15 : ¬ b < 0 ∧ ¬ σ.1 2 2 ≤ b
    ·
      obtain rfl : r_15 = 1 := Eq.trans q_15 (if_pos p_15)
      rw [hz] at p_15
      obtain ⟨j, hj, rfl⟩ := bt_ok (by omega) p_15
      refine lv_if_ne (tgt := 23) hx hb dX4_cargo_18 (by decide) (fun _ => ?_) (fun cc => absurd cc (by decide))
      refine lv_aload_n hx hb dX4_cargo_23 rfl (lv_at hl 0 rfl) ?_
      refine fg3_3 X I k (by omega) kfX4_109 dX4_cargo_24 ?_
      refine lv_iload_n hx hb dX4_cargo_27 rfl (lv_at hl 3 rfl) ?_
      refine w_ld X I (33 + 4 * k) (by omega) (n := 6) (k := j) (fun _ _ _ => wc_cargo g α k _ _ _) rfl (by omega) (by decide) dX4_cargo_28 ?_
      exact w_iretS X hr hlk (by first | exact (spq_bad hbad).symm | exact ((spq_ok hk (by omega)).trans (spq_ok hj (by omega))).symm | exact ((spq_ok hk (by omega)).trans (spq_bad (bt_bad p_15))).symm) dX4_cargo_29
    ·
      obtain rfl : r_15 = 0 := Eq.trans q_15 (if_neg p_15)
      rw [hz] at p_15
      refine lv_if_ne (tgt := 23) hx hb dX4_cargo_18 (by decide) (fun cc => absurd cc (by decide)) (fun _ => ?_)
      refine lv_iconst (v := (-1)) hx hb dX4_cargo_21 (by decide) ?_
      exact w_iretS X hr hlk (by first | exact (spq_bad hbad).symm | exact ((spq_ok hk (by omega)).trans (spq_ok hj (by omega))).symm | exact ((spq_ok hk (by omega)).trans (spq_bad (bt_bad p_15))).symm) dX4_cargo_22
end
section
variable {l : Launch} {g : wG} {α : Nat → Nat} {N : Nat} {σ : wS} {p : Program} {e : Env} {s : State} {m : MethodId} {args : Array Value} {below : List Frame} {meth : Method} {c : Code}
set_option maxHeartbeats 4000000 in
set_option maxRecDepth 100000 in
theorem ctX4_loaded (l : Launch) (g : wG) (α : Nat → Nat) (N : Nat) (σ : wS) (a b : Int32) (n d : Nat) (hn : σ.1 0 7 = nI n) (hn10 : n ≤ 10) (hN : 32 + 4 * n ≤ N) (hd : σ.1 0 6 = nI d) (hd200 : d ≤ 200) (hR : ∀ k, k < n → σ.2.2 5 k = some (32 + 4 * k)) : Met l yX4_loaded (wM yX4_loaded cX4_loaded 4 (some FieldType.int)) ({ frames := 1, cells := 0, slots := 0, locals := 22 } : Room) (wPc g α N σ [.ref (α 0), .int a, .int b]) (vp_Si (fun r => r = spq n a (-2) (fun i => spq d b (-2) (σ.1 (35 + 4 * i))))) 0 0 (fun _ => False) := by
  refine w_enterS (by decide) (Nat.le_of_ble_eq_true rfl) (fun p e s m args below meth c X I hr hlk ls hl => ?_)
  have hx := X.1.1
  have hb := X.1.2.1
  have hl : lv_has ls 4 [(0, .ref (α 0)), (1, .int a), (2, .int b)] := hl
  refine lv_aload_n hx hb dX4_loaded_0 rfl (lv_at hl 0 rfl) ?_
  refine lv_iload_n hx hb dX4_loaded_1 rfl (lv_at hl 1 rfl) ?_
  refine w_vSq X I 0 (by omega) rfl rfl (As := [.int a]) (rest := []) (ctX4_shipNumbered l g α N σ a n hn hn10 hN hR) (wM_V kmX4_78 ki_X4_shipNumbered ks_X4_shipNumbered kn_X4 kc_X4_shipNumbered) rfl rfl (n := 1) (by decide +kernel) rfl ⟨by decide, by decide⟩ hl.1 rfl (Nat.le_of_ble_eq_true rfl) ⟨Nat.zero_le _, Nat.zero_le _⟩ dX4_loaded_2 (fun r_2 q_2 => ?_)
  replace q_2 : (∀ k, k < n → a = nI k → r_2 = some (α (32 + 4 * k))) ∧ ((a < 0 ∨ nI n ≤ a) → r_2 = none) := q_2
  rcases ix2 a (n := n) (by omega) with hbad | ⟨k, hk, rfl⟩
  ·
    obtain rfl : r_2 = none := q_2.2 hbad
    refine w_eqv (y := .null) rfl ?_
    refine lv_astore_nN (lv' := [(3, .null), (0, .ref (α 0)), (1, .int a), (2, .int b)]) hx hb dX4_loaded_5 rfl hl (by decide) rfl (fun ls hl => ?_)
    refine lv_aload_nN hx hb dX4_loaded_6 rfl (lv_at hl 0 rfl) ?_
    refine lv_ifnullN (tgt := 24) hx hb dX4_loaded_7 (by decide) ?_
    refine lv_bipush (v := (-2)) hx hb dX4_loaded_24 (by decide) ?_
    exact w_iretS X hr hlk (by first | exact (spq_bad hbad).symm | exact ((spq_ok hk (by omega)).trans (spq_ok hj (by omega))).symm | exact ((spq_ok hk (by omega)).trans (spq_bad (m1_bad (by omega) p_18))).symm) dX4_loaded_26
  ·
    obtain rfl : r_2 = some (α (32 + 4 * k)) := q_2.1 k hk rfl
    clear q_2
    refine w_eqv (y := .ref (α (32 + 4 * k))) rfl ?_
    refine lv_astore_n (lv' := [(3, .ref (α (32 + 4 * k))), (0, .ref (α 0)), (1, .int (nI k)), (2, .int b)]) hx hb dX4_loaded_5 rfl hl (by decide) rfl (fun ls hl => ?_)
    refine lv_aload_n hx hb dX4_loaded_6 rfl (lv_at hl 0 rfl) ?_
    refine lv_ifnull hx hb dX4_loaded_7 ?_
    refine lv_iload_n hx hb dX4_loaded_10 rfl (lv_at hl 3 rfl) ?_
    refine lv_iconst (v := 0) hx hb dX4_loaded_11 (by decide) ?_
    refine lv_aload_n hx hb dX4_loaded_12 rfl (lv_at hl 1 rfl) ?_
    refine fg4_6 X I (by omega) kfX4_43 dX4_loaded_13 ?_
    refine w_eqi hd ?_
    refine lv_iconst (v := 1) hx hb dX4_loaded_16 (by decide) ?_
    refine lv_isub hx hb dX4_loaded_17 ?_
    refine w_sSi X I (As := [.int b, .int 0, .int ((nI d) - 1)]) (rest := []) (ctX4_within l g α N σ _ _ _ ) (wM_S kmX4_57 kt_X4_within kn_X4 kc_X4_within) rfl rfl (n := 3) (by decide +kernel) rfl ⟨by decide, by decide⟩ hl.1 rfl (Nat.le_of_ble_eq_true rfl) ⟨Nat.zero_le _, Nat.zero_le _⟩ dX4_loaded_18 (fun r_18 q_18 => ?_)
    by_cases p_18 : ¬ b < 0 ∧ ¬ ((nI d) - 1) < b
    ·
      obtain rfl : r_18 = 1 := Eq.trans q_18 (if_pos p_18)
      obtain ⟨j, hj, rfl⟩ := m1_ok (n := d) (by omega) p_18
      refine lv_if_ne (tgt := 27) hx hb dX4_loaded_21 (by decide) (fun _ => ?_) (fun cc => absurd cc (by decide))
      refine lv_aload_n hx hb dX4_loaded_27 rfl (lv_at hl 0 rfl) ?_
      refine fg3_5 X I k (by omega) kfX4_116 dX4_loaded_28 ?_
      refine lv_iload_n hx hb dX4_loaded_31 rfl (lv_at hl 3 rfl) ?_
      refine w_ld X I (35 + 4 * k) (by omega) (n := 200) (k := j) (fun _ _ _ => wc_log g α k _ _ _) rfl (by omega) (by decide) dX4_loaded_32 ?_
      exact w_iretS X hr hlk (by first | exact (spq_bad hbad).symm | exact ((spq_ok hk (by omega)).trans (spq_ok hj (by omega))).symm | exact ((spq_ok hk (by omega)).trans (spq_bad (m1_bad (by omega) p_18))).symm) dX4_loaded_33
    ·
      obtain rfl : r_18 = 0 := Eq.trans q_18 (if_neg p_18)
      refine lv_if_ne (tgt := 27) hx hb dX4_loaded_21 (by decide) (fun cc => absurd cc (by decide)) (fun _ => ?_)
      refine lv_bipush (v := (-2)) hx hb dX4_loaded_24 (by decide) ?_
      exact w_iretS X hr hlk (by first | exact (spq_bad hbad).symm | exact ((spq_ok hk (by omega)).trans (spq_ok hj (by omega))).symm | exact ((spq_ok hk (by omega)).trans (spq_bad (m1_bad (by omega) p_18))).symm) dX4_loaded_26
end
section
variable {l : Launch} {g : wG} {α : Nat → Nat} {N : Nat} {σ : wS} {p : Program} {e : Env} {s : State} {m : MethodId} {args : Array Value} {below : List Frame} {meth : Method} {c : Code}
set_option maxHeartbeats 4000000 in
set_option maxRecDepth 100000 in
theorem ctX4_term (l : Launch) (g : wG) (α : Nat → Nat) (N : Nat) (σ : wS) (a b : Int32) (n : Nat) (hn : σ.1 0 7 = nI n) (hn10 : n ≤ 10) (hN : 32 + 4 * n ≤ N) (hR : ∀ k, k < n → σ.2.2 5 k = some (32 + 4 * k)) : Met l yX4_term (wM yX4_term cX4_term 4 (some FieldType.int)) ({ frames := 1, cells := 0, slots := 0, locals := 22 } : Room) (wPc g α N σ [.ref (α 0), .int a, .int b]) (vp_Si (fun r => r = spq n a (-1) (fun i => spq 6 b (-1) (σ.1 (34 + 4 * i))))) 0 0 (fun _ => False) := by
  refine w_enterS (by decide) (Nat.le_of_ble_eq_true rfl) (fun p e s m args below meth c X I hr hlk ls hl => ?_)
  have hx := X.1.1
  have hb := X.1.2.1
  have hl : lv_has ls 4 [(0, .ref (α 0)), (1, .int a), (2, .int b)] := hl
  refine lv_aload_n hx hb dX4_term_0 rfl (lv_at hl 0 rfl) ?_
  refine lv_iload_n hx hb dX4_term_1 rfl (lv_at hl 1 rfl) ?_
  refine w_vSq X I 0 (by omega) rfl rfl (As := [.int a]) (rest := []) (ctX4_shipNumbered l g α N σ a n hn hn10 hN hR) (wM_V kmX4_78 ki_X4_shipNumbered ks_X4_shipNumbered kn_X4 kc_X4_shipNumbered) rfl rfl (n := 1) (by decide +kernel) rfl ⟨by decide, by decide⟩ hl.1 rfl (Nat.le_of_ble_eq_true rfl) ⟨Nat.zero_le _, Nat.zero_le _⟩ dX4_term_2 (fun r_2 q_2 => ?_)
  replace q_2 : (∀ k, k < n → a = nI k → r_2 = some (α (32 + 4 * k))) ∧ ((a < 0 ∨ nI n ≤ a) → r_2 = none) := q_2
  rcases ix2 a (n := n) (by omega) with hbad | ⟨k, hk, rfl⟩
  ·
    obtain rfl : r_2 = none := q_2.2 hbad
    refine w_eqv (y := .null) rfl ?_
    refine lv_astore_nN (lv' := [(3, .null), (0, .ref (α 0)), (1, .int a), (2, .int b)]) hx hb dX4_term_5 rfl hl (by decide) rfl (fun ls hl => ?_)
    refine lv_aload_nN hx hb dX4_term_6 rfl (lv_at hl 0 rfl) ?_
    refine lv_ifnullN (tgt := 19) hx hb dX4_term_7 (by decide) ?_
    refine lv_iconst (v := (-1)) hx hb dX4_term_19 (by decide) ?_
    exact w_iretS X hr hlk (by first | exact (spq_bad hbad).symm | exact ((spq_ok hk (by omega)).trans (spq_ok hj (by omega))).symm | exact ((spq_ok hk (by omega)).trans (spq_bad (m1_bad (n := 6) (by decide) p_13))).symm) dX4_term_20
  ·
    obtain rfl : r_2 = some (α (32 + 4 * k)) := q_2.1 k hk rfl
    clear q_2
    refine w_eqv (y := .ref (α (32 + 4 * k))) rfl ?_
    refine lv_astore_n (lv' := [(3, .ref (α (32 + 4 * k))), (0, .ref (α 0)), (1, .int (nI k)), (2, .int b)]) hx hb dX4_term_5 rfl hl (by decide) rfl (fun ls hl => ?_)
    refine lv_aload_n hx hb dX4_term_6 rfl (lv_at hl 0 rfl) ?_
    refine lv_ifnull hx hb dX4_term_7 ?_
    refine lv_iload_n hx hb dX4_term_10 rfl (lv_at hl 3 rfl) ?_
    refine lv_iconst (v := 0) hx hb dX4_term_11 (by decide) ?_
    refine lv_iconst (v := 5) hx hb dX4_term_12 (by decide) ?_
    refine w_sSi X I (As := [.int b, .int 0, .int 5]) (rest := []) (ctX4_within l g α N σ _ _ _ ) (wM_S kmX4_57 kt_X4_within kn_X4 kc_X4_within) rfl rfl (n := 3) (by decide +kernel) rfl ⟨by decide, by decide⟩ hl.1 rfl (Nat.le_of_ble_eq_true rfl) ⟨Nat.zero_le _, Nat.zero_le _⟩ dX4_term_13 (fun r_13 q_13 => ?_)
    by_cases p_13 : ¬ b < 0 ∧ ¬ 5 < b
    ·
      obtain rfl : r_13 = 1 := Eq.trans q_13 (if_pos p_13)
      obtain ⟨j, hj, rfl⟩ := m1_ok (n := 6) (by decide) p_13
      refine lv_if_ne (tgt := 21) hx hb dX4_term_16 (by decide) (fun _ => ?_) (fun cc => absurd cc (by decide))
      refine lv_aload_n hx hb dX4_term_21 rfl (lv_at hl 0 rfl) ?_
      refine fg3_4 X I k (by omega) kfX4_146 dX4_term_22 ?_
      refine lv_iload_n hx hb dX4_term_25 rfl (lv_at hl 3 rfl) ?_
      refine w_ld X I (34 + 4 * k) (by omega) (n := 6) (k := j) (fun _ _ _ => wc_terms g α k _ _ _) rfl (by omega) (by decide) dX4_term_26 ?_
      exact w_iretS X hr hlk (by first | exact (spq_bad hbad).symm | exact ((spq_ok hk (by omega)).trans (spq_ok hj (by omega))).symm | exact ((spq_ok hk (by omega)).trans (spq_bad (m1_bad (n := 6) (by decide) p_13))).symm) dX4_term_27
    ·
      obtain rfl : r_13 = 0 := Eq.trans q_13 (if_neg p_13)
      refine lv_if_ne (tgt := 21) hx hb dX4_term_16 (by decide) (fun cc => absurd cc (by decide)) (fun _ => ?_)
      refine lv_iconst (v := (-1)) hx hb dX4_term_19 (by decide) ?_
      exact w_iretS X hr hlk (by first | exact (spq_bad hbad).symm | exact ((spq_ok hk (by omega)).trans (spq_ok hj (by omega))).symm | exact ((spq_ok hk (by omega)).trans (spq_bad (m1_bad (n := 6) (by decide) p_13))).symm) dX4_term_20
end
section
variable {l : Launch} {g : wG} {α : Nat → Nat} {N : Nat} {σ : wS} {p : Program} {e : Env} {s : State} {m : MethodId} {args : Array Value} {below : List Frame} {meth : Method} {c : Code}
set_option maxHeartbeats 4000000 in
set_option maxRecDepth 100000 in
theorem lpX1_sampleOf_11 (i ly : Nat) (b : Int32) (X : wX p s m args c cX1_sampleOf 9 RX1 g) (I : wI g α N (fun _ => True) s.heap s.heap [] σ) (hr : meth.sig.returnType = (some FieldType.int)) (hlk : meth.locks = false) (hN : 36 + 4 * i ≤ N) (hz : σ.1 2 2 = nI ly) (hly : ly ≤ 6) (hb0 : ¬ b = 0) : ∀ (fu : Nat) (k : Nat) (ah : Int32) (su : Int32) (ta : Int32), ly + 1 ≤ k + fu → k ≤ ly → ah = smI (σ.1 (33 + 4 * i)) k → su = smI (fun j => smN (σ.1 (33 + 4 * i)) b j * σ.1 4 j) k → ta = smI (smN (σ.1 (33 + 4 * i)) b) k → ∀ ls : Array Slot, lv_has ls 9 [(0, .ref (α 2)), (1, .ref (α (33 + 4 * i))), (2, .int b), (3, .int ah), (4, .int su), (5, .int ta), (6, .int (nI k))] → W p l e ({ frames := 0, cells := 0, slots := 0, locals := 0 } : Room) s m args below meth c s.heap [] 0 0 (MQ below (vp_Si (fun r => r = smpF (σ.1 (33 + 4 * i)) (σ.1 4) b ly)) args s 0 0 (fun _ => False)) (F0 m 11 ls []) := by
  have hx := X.1.1
  have hb := X.1.2.1
  intro fu
  induction fu with
  | zero =>
    intro k ah su ta hfu hk h1 h2 h3
    exact absurd hfu (by omega)
  | succ fu ih =>
    intro k ah su ta hfu hk h1 h2 h3 ls hl
    refine lv_iload hx hb dX1_sampleOf_11 (lv_at hl 6 rfl) ?_
    refine lv_aload_n hx hb dX1_sampleOf_13 rfl (lv_at hl 0 rfl) ?_
    refine fg1_2 X I (by omega) kfX1_18 dX1_sampleOf_14 ?_
    refine w_eqi hz ?_
    refine lv_icmp_ge (tgt := 69) hx hb dX1_sampleOf_17 (by decide) (fun c_17 => ?_) (fun c_17 => ?_)
    ·
      have e : k = ly := by have := nI_le' c_17 (by omega) (by omega); omega
      refine lv_iload hx hb dX1_sampleOf_69 (lv_at hl 5 rfl) ?_
      refine lv_if_ne (tgt := 79) hx hb dX1_sampleOf_71 (by decide) (fun c_71 => ?_) (fun c_71 => ?_)
      ·
        refine lv_iload hx hb dX1_sampleOf_79 (lv_at hl 4 rfl) ?_
        refine lv_iload hx hb dX1_sampleOf_81 (lv_at hl 5 rfl) ?_
        refine lv_idiv hx hb dX1_sampleOf_83 c_71 ?_
        exact w_iretS X hr hlk (by subst e; subst h2; subst h3; first | exact (if_pos c_71).symm | exact (if_neg c_71).symm) dX1_sampleOf_84
      ·
        refine lv_bipush (v := (-9)) hx hb dX1_sampleOf_74 (by decide) ?_
        refine lv_goto (tgt := 84) hx hb dX1_sampleOf_76 (by decide) ?_
        exact w_iretS X hr hlk (by subst e; subst h2; subst h3; first | exact (if_pos c_71).symm | exact (if_neg c_71).symm) dX1_sampleOf_84
    ·
      have hlt : k < ly := by
        rcases Nat.lt_or_ge k ly with q | q
        · exact q
        · exact absurd (nI_le q (by omega)) c_17
      refine lv_iload_n hx hb dX1_sampleOf_20 rfl (lv_at hl 3 rfl) ?_
      refine lv_aload_n hx hb dX1_sampleOf_21 rfl (lv_at hl 1 rfl) ?_
      refine lv_iload hx hb dX1_sampleOf_22 (lv_at hl 6 rfl) ?_
      refine w_ld X I (33 + 4 * i) (by omega) (n := 6) (k := k) (fun _ _ _ => wc_cargo g α i _ _ _) rfl (by omega) (by decide) dX1_sampleOf_24 ?_
      refine lv_iadd hx hb dX1_sampleOf_25 ?_
      refine lv_istore (lv' := [(7, .int (ah + (σ.1 (33 + 4 * i) k))), (0, .ref (α 2)), (1, .ref (α (33 + 4 * i))), (2, .int b), (3, .int ah), (4, .int su), (5, .int ta), (6, .int (nI k))]) hx hb dX1_sampleOf_26 hl (by decide) rfl (fun ls hl => ?_)
      refine lv_iload hx hb dX1_sampleOf_28 (lv_at hl 0 rfl) ?_
      refine lv_iload_n hx hb dX1_sampleOf_30 rfl (lv_at hl 3 rfl) ?_
      refine lv_idiv hx hb dX1_sampleOf_31 hb0 ?_
      refine lv_iload_n hx hb dX1_sampleOf_32 rfl (lv_at hl 4 rfl) ?_
      refine lv_iload_n hx hb dX1_sampleOf_33 rfl (lv_at hl 3 rfl) ?_
      refine lv_idiv hx hb dX1_sampleOf_34 hb0 ?_
      refine lv_isub hx hb dX1_sampleOf_35 ?_
      refine lv_istore (lv' := [(8, .int (((ah + (σ.1 (33 + 4 * i) k)) / b) - (ah / b))), (7, .int (ah + (σ.1 (33 + 4 * i) k))), (0, .ref (α 2)), (1, .ref (α (33 + 4 * i))), (2, .int b), (3, .int ah), (4, .int su), (5, .int ta), (6, .int (nI k))]) hx hb dX1_sampleOf_36 hl (by decide) rfl (fun ls hl => ?_)
      refine lv_iload hx hb dX1_sampleOf_38 (lv_at hl 6 rfl) ?_
      refine lv_iload hx hb dX1_sampleOf_40 (lv_at hl 0 rfl) ?_
      refine lv_aload_n hx hb dX1_sampleOf_42 rfl (lv_at hl 2 rfl) ?_
      refine fg1_1 X I (by omega) kfX1_15 dX1_sampleOf_43 ?_
      refine lv_iload hx hb dX1_sampleOf_46 (lv_at hl 8 rfl) ?_
      refine w_ld X I 4 (by omega) (n := 6) (k := k) (fun _ _ _ => rfl) rfl (by omega) (by decide) dX1_sampleOf_48 ?_
      refine lv_imul hx hb dX1_sampleOf_49 ?_
      refine lv_iadd hx hb dX1_sampleOf_50 ?_
      refine lv_istore (lv' := [(4, .int (su + ((((ah + (σ.1 (33 + 4 * i) k)) / b) - (ah / b)) * (σ.1 4 k)))), (8, .int (((ah + (σ.1 (33 + 4 * i) k)) / b) - (ah / b))), (7, .int (ah + (σ.1 (33 + 4 * i) k))), (0, .ref (α 2)), (1, .ref (α (33 + 4 * i))), (2, .int b), (3, .int ah), (5, .int ta), (6, .int (nI k))]) hx hb dX1_sampleOf_51 hl (by decide) rfl (fun ls hl => ?_)
      refine lv_iload hx hb dX1_sampleOf_53 (lv_at hl 7 rfl) ?_
      refine lv_iload hx hb dX1_sampleOf_55 (lv_at hl 1 rfl) ?_
      refine lv_iadd hx hb dX1_sampleOf_57 ?_
      refine lv_istore (lv' := [(5, .int (ta + (((ah + (σ.1 (33 + 4 * i) k)) / b) - (ah / b)))), (4, .int (su + ((((ah + (σ.1 (33 + 4 * i) k)) / b) - (ah / b)) * (σ.1 4 k)))), (8, .int (((ah + (σ.1 (33 + 4 * i) k)) / b) - (ah / b))), (7, .int (ah + (σ.1 (33 + 4 * i) k))), (0, .ref (α 2)), (1, .ref (α (33 + 4 * i))), (2, .int b), (3, .int ah), (6, .int (nI k))]) hx hb dX1_sampleOf_58 hl (by decide) rfl (fun ls hl => ?_)
      refine lv_iload hx hb dX1_sampleOf_60 (lv_at hl 3 rfl) ?_
      refine lv_istore_n (lv' := [(3, .int (ah + (σ.1 (33 + 4 * i) k))), (5, .int (ta + (((ah + (σ.1 (33 + 4 * i) k)) / b) - (ah / b)))), (4, .int (su + ((((ah + (σ.1 (33 + 4 * i) k)) / b) - (ah / b)) * (σ.1 4 k)))), (8, .int (((ah + (σ.1 (33 + 4 * i) k)) / b) - (ah / b))), (7, .int (ah + (σ.1 (33 + 4 * i) k))), (0, .ref (α 2)), (1, .ref (α (33 + 4 * i))), (2, .int b), (6, .int (nI k))]) hx hb dX1_sampleOf_62 rfl hl (by decide) rfl (fun ls hl => ?_)
      refine lv_iinc (v := nI (k + 1)) (lv' := [(6, .int (nI (k + 1))), (3, .int (ah + (σ.1 (33 + 4 * i) k))), (5, .int (ta + (((ah + (σ.1 (33 + 4 * i) k)) / b) - (ah / b)))), (4, .int (su + ((((ah + (σ.1 (33 + 4 * i) k)) / b) - (ah / b)) * (σ.1 4 k)))), (8, .int (((ah + (σ.1 (33 + 4 * i) k)) / b) - (ah / b))), (7, .int (ah + (σ.1 (33 + 4 * i) k))), (0, .ref (α 2)), (1, .ref (α (33 + 4 * i))), (2, .int b)]) hx hb dX1_sampleOf_63 hl (k := 8) rfl (nI_1 _) (by decide) rfl (fun ls hl => ?_)
      refine lv_goto (tgt := 11) hx hb dX1_sampleOf_66 (by decide) ?_
      exact ih (k + 1) (ah + (σ.1 (33 + 4 * i) k)) (su + ((((ah + (σ.1 (33 + 4 * i) k)) / b) - (ah / b)) * (σ.1 4 k))) (ta + (((ah + (σ.1 (33 + 4 * i) k)) / b) - (ah / b))) (by omega) (by omega) (by rw [h1]; rfl) (by rw [h1, h2]; rfl) (by rw [h1, h3]; rfl) ls (lv_sub hl [6, 7, 8, 1, 3, 2, 0] rfl)
set_option maxHeartbeats 4000000 in
set_option maxRecDepth 100000 in
theorem ctX1_sampleOf (l : Launch) (g : wG) (α : Nat → Nat) (N : Nat) (σ : wS) (i ly : Nat) (b : Int32) (hN : 36 + 4 * i ≤ N) (hz : σ.1 2 2 = nI ly) (hly : ly ≤ 6) (hb0 : ¬ b = 0) : Met l yX1_sampleOf (wM yX1_sampleOf cX1_sampleOf 9 (some FieldType.int)) ({ frames := 0, cells := 0, slots := 0, locals := 0 } : Room) (wPc g α N σ [.ref (α 2), .ref (α (33 + 4 * i)), .int b]) (vp_Si (fun r => r = smpF (σ.1 (33 + 4 * i)) (σ.1 4) b ly)) 0 0 (fun _ => False) := by
  refine w_enterS (by decide) (Nat.le_of_ble_eq_true rfl) (fun p e s m args below meth c X I hr hlk ls hl => ?_)
  have hx := X.1.1
  have hb := X.1.2.1
  have hl : lv_has ls 9 [(0, .ref (α 2)), (1, .ref (α (33 + 4 * i))), (2, .int b)] := hl
  refine lv_iconst (v := 0) hx hb dX1_sampleOf_0 (by decide) ?_
  refine lv_istore_n (lv' := [(3, .int 0), (0, .ref (α 2)), (1, .ref (α (33 + 4 * i))), (2, .int b)]) hx hb dX1_sampleOf_1 rfl hl (by decide) rfl (fun ls hl => ?_)
  refine lv_iconst (v := 0) hx hb dX1_sampleOf_2 (by decide) ?_
  refine lv_istore (lv' := [(4, .int 0), (3, .int 0), (0, .ref (α 2)), (1, .ref (α (33 + 4 * i))), (2, .int b)]) hx hb dX1_sampleOf_3 hl (by decide) rfl (fun ls hl => ?_)
  refine lv_iconst (v := 0) hx hb dX1_sampleOf_5 (by decide) ?_
  refine lv_istore (lv' := [(5, .int 0), (4, .int 0), (3, .int 0), (0, .ref (α 2)), (1, .ref (α (33 + 4 * i))), (2, .int b)]) hx hb dX1_sampleOf_6 hl (by decide) rfl (fun ls hl => ?_)
  refine lv_iconst (v := 0) hx hb dX1_sampleOf_8 (by decide) ?_
  refine lv_istore (lv' := [(6, .int 0), (5, .int 0), (4, .int 0), (3, .int 0), (0, .ref (α 2)), (1, .ref (α (33 + 4 * i))), (2, .int b)]) hx hb dX1_sampleOf_9 hl (by decide) rfl (fun ls hl => ?_)
  exact lpX1_sampleOf_11 i ly b X I hr hlk hN hz hly hb0  (ly + 1) 0 0 0 0 (by omega) (by omega) rfl rfl rfl ls (lv_sub hl [4, 5, 6, 3, 2, 1, 0] rfl)
end
section
variable {l : Launch} {g : wG} {α : Nat → Nat} {N : Nat} {σ : wS} {p : Program} {e : Env} {s : State} {m : MethodId} {args : Array Value} {below : List Frame} {meth : Method} {c : Code}
set_option maxHeartbeats 4000000 in
set_option maxRecDepth 100000 in
theorem ctX4_sample (l : Launch) (g : wG) (α : Nat → Nat) (N : Nat) (σ : wS) (a b : Int32) (n ly : Nat) (hn : σ.1 0 7 = nI n) (hn10 : n ≤ 10) (hN : 32 + 4 * n ≤ N) (hz : σ.1 2 2 = nI ly) (hly : ly ≤ 6) (hR : ∀ k, k < n → σ.2.2 5 k = some (32 + 4 * k)) : Met l yX4_sample (wM yX4_sample cX4_sample 4 (some FieldType.int)) ({ frames := 1, cells := 0, slots := 0, locals := 28 } : Room) (wPc g α N σ [.ref (α 0), .int a, .int b]) (vp_Si (fun r => r = spq n a (-1) (fun i => if ¬ b < 1 ∧ ¬ 9 < b then smpF (σ.1 (33 + 4 * i)) (σ.1 4) b ly else (-1)))) 0 0 (fun _ => False) := by
  refine w_enterS (by decide) (Nat.le_of_ble_eq_true rfl) (fun p e s m args below meth c X I hr hlk ls hl => ?_)
  have hx := X.1.1
  have hb := X.1.2.1
  have hl : lv_has ls 4 [(0, .ref (α 0)), (1, .int a), (2, .int b)] := hl
  refine lv_aload_n hx hb dX4_sample_0 rfl (lv_at hl 0 rfl) ?_
  refine lv_iload_n hx hb dX4_sample_1 rfl (lv_at hl 1 rfl) ?_
  refine w_vSq X I 0 (by omega) rfl rfl (As := [.int a]) (rest := []) (ctX4_shipNumbered l g α N σ a n hn hn10 hN hR) (wM_V kmX4_78 ki_X4_shipNumbered ks_X4_shipNumbered kn_X4 kc_X4_shipNumbered) rfl rfl (n := 1) (by decide +kernel) rfl ⟨by decide, by decide⟩ hl.1 rfl (Nat.le_of_ble_eq_true rfl) ⟨Nat.zero_le _, Nat.zero_le _⟩ dX4_sample_2 (fun r_2 q_2 => ?_)
  replace q_2 : (∀ k, k < n → a = nI k → r_2 = some (α (32 + 4 * k))) ∧ ((a < 0 ∨ nI n ≤ a) → r_2 = none) := q_2
  rcases ix2 a (n := n) (by omega) with hbad | ⟨k, hk, rfl⟩
  ·
    obtain rfl : r_2 = none := q_2.2 hbad
    refine w_eqv (y := .null) rfl ?_
    refine lv_astore_nN (lv' := [(3, .null), (0, .ref (α 0)), (1, .int a), (2, .int b)]) hx hb dX4_sample_5 rfl hl (by decide) rfl (fun ls hl => ?_)
    refine lv_aload_nN hx hb dX4_sample_6 rfl (lv_at hl 0 rfl) ?_
    refine lv_ifnullN (tgt := 20) hx hb dX4_sample_7 (by decide) ?_
    refine lv_iconst (v := (-1)) hx hb dX4_sample_20 (by decide) ?_
    exact w_iretS X hr hlk (by first | exact (spq_bad hbad).symm | exact ((spq_ok hk (by omega)).trans (if_pos p_14)).symm | exact ((spq_ok hk (by omega)).trans (if_neg p_14)).symm) dX4_sample_21
  ·
    obtain rfl : r_2 = some (α (32 + 4 * k)) := q_2.1 k hk rfl
    clear q_2
    refine w_eqv (y := .ref (α (32 + 4 * k))) rfl ?_
    refine lv_astore_n (lv' := [(3, .ref (α (32 + 4 * k))), (0, .ref (α 0)), (1, .int (nI k)), (2, .int b)]) hx hb dX4_sample_5 rfl hl (by decide) rfl (fun ls hl => ?_)
    refine lv_aload_n hx hb dX4_sample_6 rfl (lv_at hl 0 rfl) ?_
    refine lv_ifnull hx hb dX4_sample_7 ?_
    refine lv_iload_n hx hb dX4_sample_10 rfl (lv_at hl 3 rfl) ?_
    refine lv_iconst (v := 1) hx hb dX4_sample_11 (by decide) ?_
    refine lv_bipush (v := 9) hx hb dX4_sample_12 (by decide) ?_
    refine w_sSi X I (As := [.int b, .int 1, .int 9]) (rest := []) (ctX4_within l g α N σ _ _ _ ) (wM_S kmX4_57 kt_X4_within kn_X4 kc_X4_within) rfl rfl (n := 3) (by decide +kernel) rfl ⟨by decide, by decide⟩ hl.1 rfl (Nat.le_of_ble_eq_true rfl) ⟨Nat.zero_le _, Nat.zero_le _⟩ dX4_sample_14 (fun r_14 q_14 => ?_)
    by_cases p_14 : ¬ b < 1 ∧ ¬ 9 < b
    ·
      obtain rfl : r_14 = 1 := Eq.trans q_14 (if_pos p_14)
      have hb0 : ¬ b = 0 := fun z => p_14.1 (by rw [z]; decide)
      refine lv_if_ne (tgt := 22) hx hb dX4_sample_17 (by decide) (fun _ => ?_) (fun cc => absurd cc (by decide))
      refine lv_aload_n hx hb dX4_sample_22 rfl (lv_at hl 1 rfl) ?_
      refine fg4_1 X I (by omega) kfX4_16 dX4_sample_23 ?_
      refine lv_aload_n hx hb dX4_sample_26 rfl (lv_at hl 0 rfl) ?_
      refine fg3_3 X I k (by omega) kfX4_109 dX4_sample_27 ?_
      refine lv_iload_n hx hb dX4_sample_30 rfl (lv_at hl 3 rfl) ?_
      refine w_vSi X I 2 (by omega) rfl rfl (As := [.ref (α (33 + 4 * k)), .int b]) (rest := []) (ctX1_sampleOf l g α N σ k ly b (by omega) hz hly hb0) (wM_V kmX4_128 ki_X1_sampleOf ks_X1_sampleOf kn_X1 kc_X1_sampleOf) rfl rfl (n := 2) (by decide +kernel) rfl ⟨by decide, by decide⟩ hl.1 rfl (Nat.le_of_ble_eq_true rfl) ⟨Nat.zero_le _, Nat.zero_le _⟩ dX4_sample_31 (fun r_31 q_31 => ?_)
      replace q_31 : r_31 = smpF (σ.1 (33 + 4 * k)) (σ.1 4) b ly := q_31
      subst q_31
      exact w_iretS X hr hlk (by first | exact (spq_bad hbad).symm | exact ((spq_ok hk (by omega)).trans (if_pos p_14)).symm | exact ((spq_ok hk (by omega)).trans (if_neg p_14)).symm) dX4_sample_34
    ·
      obtain rfl : r_14 = 0 := Eq.trans q_14 (if_neg p_14)
      refine lv_if_ne (tgt := 22) hx hb dX4_sample_17 (by decide) (fun cc => absurd cc (by decide)) (fun _ => ?_)
      refine lv_iconst (v := (-1)) hx hb dX4_sample_20 (by decide) ?_
      exact w_iretS X hr hlk (by first | exact (spq_bad hbad).symm | exact ((spq_ok hk (by omega)).trans (if_pos p_14)).symm | exact ((spq_ok hk (by omega)).trans (if_neg p_14)).symm) dX4_sample_21
end
section
variable {l : Launch} {g : wG} {α : Nat → Nat} {N : Nat} {σ : wS} {p : Program} {e : Env} {s : State} {m : MethodId} {args : Array Value} {below : List Frame} {meth : Method} {c : Code}
def abF (v0 v1 v2 v3 v4 v5 v6 b : Int32) : Int32 := if b = 0 then v0 else if b = 1 then v1 else if b = 2 then v2 else if b = 3 then v3 else if b = 4 then v4 else if b = 5 then v5 else if b = 6 then v6 else (-1)
set_option maxHeartbeats 4000000 in
set_option maxRecDepth 100000 in
theorem ctX4_about (l : Launch) (g : wG) (α : Nat → Nat) (N : Nat) (σ : wS) (a b : Int32) (n ly : Nat) (hn : σ.1 0 7 = nI n) (hn10 : n ≤ 10) (hN : 32 + 4 * n ≤ N) (hz : σ.1 2 2 = nI ly) (hly : ly ≤ 6) (hR : ∀ k, k < n → σ.2.2 5 k = some (32 + 4 * k)) : Met l yX4_about (wM yX4_about cX4_about 4 (some FieldType.int)) ({ frames := 1, cells := 0, slots := 0, locals := 23 } : Room) (wPc g α N σ [.ref (α 0), .int a, .int b]) (vp_Si (fun r => r = spq n a (-1) (fun i => abF (σ.1 (32 + 4 * i) 1) (σ.1 (32 + 4 * i) 2) (σ.1 (32 + 4 * i) 6) (σ.1 (32 + 4 * i) 7) (σ.1 (32 + 4 * i) 8) (σ.1 (32 + 4 * i) 9) (smI (fun k => σ.1 (33 + 4 * i) k * σ.1 4 k) ly) b))) 0 0 (fun _ => False) := by
  refine w_enterS (by decide) (Nat.le_of_ble_eq_true rfl) (fun p e s m args below meth c X I hr hlk ls hl => ?_)
  have hx := X.1.1
  have hb := X.1.2.1
  have hl : lv_has ls 4 [(0, .ref (α 0)), (1, .int a), (2, .int b)] := hl
  refine lv_aload_n hx hb dX4_about_0 rfl (lv_at hl 0 rfl) ?_
  refine lv_iload_n hx hb dX4_about_1 rfl (lv_at hl 1 rfl) ?_
  refine w_vSq X I 0 (by omega) rfl rfl (As := [.int a]) (rest := []) (ctX4_shipNumbered l g α N σ a n hn hn10 hN hR) (wM_V kmX4_78 ki_X4_shipNumbered ks_X4_shipNumbered kn_X4 kc_X4_shipNumbered) rfl rfl (n := 1) (by decide +kernel) rfl ⟨by decide, by decide⟩ hl.1 rfl (Nat.le_of_ble_eq_true rfl) ⟨Nat.zero_le _, Nat.zero_le _⟩ dX4_about_2 (fun r_2 q_2 => ?_)
  replace q_2 : (∀ k, k < n → a = nI k → r_2 = some (α (32 + 4 * k))) ∧ ((a < 0 ∨ nI n ≤ a) → r_2 = none) := q_2
  rcases ix2 a (n := n) (by omega) with hbad | ⟨k, hk, rfl⟩
  ·
    obtain rfl : r_2 = none := q_2.2 hbad
    refine w_eqv (y := .null) rfl ?_
    refine lv_astore_nN (lv' := [(3, .null), (0, .ref (α 0)), (1, .int a), (2, .int b)]) hx hb dX4_about_5 rfl hl (by decide) rfl (fun ls hl => ?_)
    refine lv_aload_nN hx hb dX4_about_6 rfl (lv_at hl 0 rfl) ?_
    refine lv_ifnonnullN hx hb dX4_about_7 ?_
    refine lv_iconst (v := (-1)) hx hb dX4_about_10 (by decide) ?_
    exact w_iretS X hr hlk (by first | exact (spq_bad hbad).symm | (rw [spq_ok hk (by omega)]; simp [abF]; done) | (rw [spq_ok hk (by omega)]; simp [abF, hsw]; done)) dX4_about_11
  ·
    obtain rfl : r_2 = some (α (32 + 4 * k)) := q_2.1 k hk rfl
    clear q_2
    refine w_eqv (y := .ref (α (32 + 4 * k))) rfl ?_
    refine lv_astore_n (lv' := [(3, .ref (α (32 + 4 * k))), (0, .ref (α 0)), (1, .int (nI k)), (2, .int b)]) hx hb dX4_about_5 rfl hl (by decide) rfl (fun ls hl => ?_)
    refine lv_aload_n hx hb dX4_about_6 rfl (lv_at hl 0 rfl) ?_
    refine lv_ifnonnull (tgt := 12) hx hb dX4_about_7 (by decide) ?_
    refine lv_iload_n hx hb dX4_about_12 rfl (lv_at hl 3 rfl) ?_
    rcases sw7 b with rfl | rfl | rfl | rfl | rfl | rfl | rfl | hsw
    ·
      refine lv_tableIn (tgt := 56) (off := 43) hx hb dX4_about_13 (by decide) (by decide) rfl (by decide) ?_
      refine lv_aload_n hx hb dX4_about_56 rfl (lv_at hl 0 rfl) ?_
      refine fg3_1 X I k (by omega) kfX4_85 dX4_about_57 ?_
      exact w_iretS X hr hlk (by first | exact (spq_bad hbad).symm | (rw [spq_ok hk (by omega)]; simp [abF]; done) | (rw [spq_ok hk (by omega)]; simp [abF, hsw]; done)) dX4_about_60
    ·
      refine lv_tableIn (tgt := 61) (off := 48) hx hb dX4_about_13 (by decide) (by decide) rfl (by decide) ?_
      refine lv_aload_n hx hb dX4_about_61 rfl (lv_at hl 0 rfl) ?_
      refine fg3_2 X I k (by omega) kfX4_95 dX4_about_62 ?_
      exact w_iretS X hr hlk (by first | exact (spq_bad hbad).symm | (rw [spq_ok hk (by omega)]; simp [abF]; done) | (rw [spq_ok hk (by omega)]; simp [abF, hsw]; done)) dX4_about_65
    ·
      refine lv_tableIn (tgt := 66) (off := 53) hx hb dX4_about_13 (by decide) (by decide) rfl (by decide) ?_
      refine lv_aload_n hx hb dX4_about_66 rfl (lv_at hl 0 rfl) ?_
      refine fg3_6 X I k (by omega) kfX4_98 dX4_about_67 ?_
      exact w_iretS X hr hlk (by first | exact (spq_bad hbad).symm | (rw [spq_ok hk (by omega)]; simp [abF]; done) | (rw [spq_ok hk (by omega)]; simp [abF, hsw]; done)) dX4_about_70
    ·
      refine lv_tableIn (tgt := 71) (off := 58) hx hb dX4_about_13 (by decide) (by decide) rfl (by decide) ?_
      refine lv_aload_n hx hb dX4_about_71 rfl (lv_at hl 0 rfl) ?_
      refine fg3_7 X I k (by omega) kfX4_101 dX4_about_72 ?_
      exact w_iretS X hr hlk (by first | exact (spq_bad hbad).symm | (rw [spq_ok hk (by omega)]; simp [abF]; done) | (rw [spq_ok hk (by omega)]; simp [abF, hsw]; done)) dX4_about_75
    ·
      refine lv_tableIn (tgt := 76) (off := 63) hx hb dX4_about_13 (by decide) (by decide) rfl (by decide) ?_
      refine lv_aload_n hx hb dX4_about_76 rfl (lv_at hl 0 rfl) ?_
      refine fg3_8 X I k (by omega) kfX4_103 dX4_about_77 ?_
      exact w_iretS X hr hlk (by first | exact (spq_bad hbad).symm | (rw [spq_ok hk (by omega)]; simp [abF]; done) | (rw [spq_ok hk (by omega)]; simp [abF, hsw]; done)) dX4_about_80
    ·
      refine lv_tableIn (tgt := 81) (off := 68) hx hb dX4_about_13 (by decide) (by decide) rfl (by decide) ?_
      refine lv_aload_n hx hb dX4_about_81 rfl (lv_at hl 0 rfl) ?_
      refine fg3_9 X I k (by omega) kfX4_106 dX4_about_82 ?_
      exact w_iretS X hr hlk (by first | exact (spq_bad hbad).symm | (rw [spq_ok hk (by omega)]; simp [abF]; done) | (rw [spq_ok hk (by omega)]; simp [abF, hsw]; done)) dX4_about_85
    ·
      refine lv_tableIn (tgt := 86) (off := 73) hx hb dX4_about_13 (by decide) (by decide) rfl (by decide) ?_
      refine lv_aload_n hx hb dX4_about_86 rfl (lv_at hl 1 rfl) ?_
      refine fg4_1 X I (by omega) kfX4_16 dX4_about_87 ?_
      refine lv_aload_n hx hb dX4_about_90 rfl (lv_at hl 0 rfl) ?_
      refine fg3_3 X I k (by omega) kfX4_109 dX4_about_91 ?_
      refine w_vSi X I 2 (by omega) rfl rfl (As := [.ref (α (33 + 4 * k))]) (rest := []) (ctX1_worthOf l g α N σ k ly (by omega) hz hly) (wM_V kmX4_112 ki_X1_worthOf ks_X1_worthOf kn_X1 kc_X1_worthOf) rfl rfl (n := 1) (by decide +kernel) rfl ⟨by decide, by decide⟩ hl.1 rfl (Nat.le_of_ble_eq_true rfl) ⟨Nat.zero_le _, Nat.zero_le _⟩ dX4_about_94 (fun r_94 q_94 => ?_)
      replace q_94 : r_94 = smI (fun j => σ.1 (33 + 4 * k) j * σ.1 4 j) ly := q_94
      subst q_94
      exact w_iretS X hr hlk (by first | exact (spq_bad hbad).symm | (rw [spq_ok hk (by omega)]; simp [abF]; done) | (rw [spq_ok hk (by omega)]; simp [abF, hsw]; done)) dX4_about_97
    ·
      refine lv_tableOut (tgt := 98) hx hb dX4_about_13 hsw.1 (by decide) ?_
      refine lv_iconst (v := (-1)) hx hb dX4_about_98 (by decide) ?_
      exact w_iretS X hr hlk (by first | exact (spq_bad hbad).symm | (rw [spq_ok hk (by omega)]; simp [abF]; done) | (rw [spq_ok hk (by omega)]; simp [abF, hsw]; done)) dX4_about_99
end
section
variable {l : Launch} {g : wG} {α : Nat → Nat} {N : Nat} {σ : wS} {p : Program} {e : Env} {s : State} {m : MethodId} {args : Array Value} {below : List Frame} {meth : Method} {c : Code}
set_option maxHeartbeats 4000000 in
set_option maxRecDepth 100000 in
theorem ctX4_counts (l : Launch) (g : wG) (α : Nat → Nat) (N : Nat) (σ : wS) (i j : Nat) (hN : 36 + 4 * i ≤ N) (hj : j < 200) : Met l yX4_counts (wM yX4_counts cX4_counts 3 (some FieldType.boolean)) ({ frames := 1, cells := 0, slots := 0, locals := 21 } : Room) (wPc g α N σ [.ref (α 0), .ref (α (32 + 4 * i)), .int (nI j)]) (vp_Si (fun r => r = if cnP (σ.1 (34 + 4 * i)) (σ.1 1) (σ.1 (35 + 4 * i)) j then 1 else 0)) 0 0 (fun _ => False) := by
  refine w_enterS (by decide) (Nat.le_of_ble_eq_true rfl) (fun p e s m args below meth c X I hr hlk ls hl => ?_)
  have hx := X.1.1
  have hb := X.1.2.1
  have hl : lv_has ls 3 [(0, .ref (α 0)), (1, .ref (α (32 + 4 * i))), (2, .int (nI j))] := hl
  refine lv_aload_n hx hb dX4_counts_0 rfl (lv_at hl 1 rfl) ?_
  refine lv_iconst (v := 3) hx hb dX4_counts_1 (by decide) ?_
  refine w_vSi X I (32 + 4 * i) (by omega) (wc_ship g α i _ _ _) rfl (As := [.int 3]) (rest := []) (ctX3_agreed l g α N σ i 3 hN (by decide)) (wM_V kmX4_234 ki_X3_agreed ks_X3_agreed kn_X3 kc_X3_agreed) rfl rfl (n := 1) (by decide +kernel) rfl ⟨by decide, by decide⟩ hl.1 rfl (Nat.le_of_ble_eq_true rfl) ⟨Nat.zero_le _, Nat.zero_le _⟩ dX4_counts_2 (fun r_2 q_2 => ?_)
  by_cases p_2 : σ.1 (34 + 4 * i) 3 = 1
  ·
    obtain rfl : r_2 = 1 := Eq.trans q_2 (if_pos p_2)
    refine lv_if_eq (tgt := 18) hx hb dX4_counts_5 (by decide) (fun cc => absurd cc (by decide)) (fun _ => ?_)
    refine lv_aload_n hx hb dX4_counts_8 rfl (lv_at hl 0 rfl) ?_
    refine lv_iload_n hx hb dX4_counts_9 rfl (lv_at hl 2 rfl) ?_
    refine w_vSi X I 0 (by omega) rfl rfl (As := [.int (nI j)]) (rest := []) (ctX4_chutesShut l g α N σ j (by omega) (by omega)) (wM_V kmX4_228 ki_X4_chutesShut ks_X4_chutesShut kn_X4 kc_X4_chutesShut) rfl rfl (n := 1) (by decide +kernel) rfl ⟨by decide, by decide⟩ hl.1 rfl (Nat.le_of_ble_eq_true rfl) ⟨Nat.zero_le _, Nat.zero_le _⟩ dX4_counts_10 (fun r_10 q_10 => ?_)
    by_cases p_10 : 4 < σ.1 1 j
    ·
      obtain rfl : r_10 = 1 := Eq.trans q_10 (if_pos p_10)
      refine lv_if_eq (tgt := 18) hx hb dX4_counts_13 (by decide) (fun cc => absurd cc (by decide)) (fun _ => ?_)
      refine lv_iconst (v := 0) hx hb dX4_counts_16 (by decide) ?_
      exact w_zretS X hr hlk (Or.inl rfl) (by simp [cnP, p_2, p_10]) dX4_counts_17
    ·
      obtain rfl : r_10 = 0 := Eq.trans q_10 (if_neg p_10)
      refine lv_if_eq (tgt := 18) hx hb dX4_counts_13 (by decide) (fun _ => ?_) (fun cc => absurd cc (by decide))
      refine lv_aload_n hx hb dX4_counts_18 rfl (lv_at hl 1 rfl) ?_
      refine lv_iconst (v := 4) hx hb dX4_counts_19 (by decide) ?_
      refine w_vSi X I (32 + 4 * i) (by omega) (wc_ship g α i _ _ _) rfl (As := [.int 4]) (rest := []) (ctX3_agreed l g α N σ i 4 hN (by decide)) (wM_V kmX4_234 ki_X3_agreed ks_X3_agreed kn_X3 kc_X3_agreed) rfl rfl (n := 1) (by decide +kernel) rfl ⟨by decide, by decide⟩ hl.1 rfl (Nat.le_of_ble_eq_true rfl) ⟨Nat.zero_le _, Nat.zero_le _⟩ dX4_counts_20 (fun r_20 q_20 => ?_)
      by_cases p_20 : σ.1 (34 + 4 * i) 4 = 1
      ·
        obtain rfl : r_20 = 1 := Eq.trans q_20 (if_pos p_20)
        refine lv_if_eq (tgt := 37) hx hb dX4_counts_23 (by decide) (fun cc => absurd cc (by decide)) (fun _ => ?_)
        refine lv_iload_n hx hb dX4_counts_26 rfl (lv_at hl 2 rfl) ?_
        refine lv_bipush (v := 7) hx hb dX4_counts_27 (by decide) ?_
        refine lv_irem hx hb dX4_counts_29 (by decide) ?_
        refine lv_bipush (v := 6) hx hb dX4_counts_30 (by decide) ?_
        refine lv_icmp_ne (tgt := 37) hx hb dX4_counts_32 (by decide) (fun c_32 => ?_) (fun c_32 => ?_)
        ·
          refine lv_aload_n hx hb dX4_counts_37 rfl (lv_at hl 1 rfl) ?_
          refine lv_iconst (v := 5) hx hb dX4_counts_38 (by decide) ?_
          refine w_vSi X I (32 + 4 * i) (by omega) (wc_ship g α i _ _ _) rfl (As := [.int 5]) (rest := []) (ctX3_agreed l g α N σ i 5 hN (by decide)) (wM_V kmX4_234 ki_X3_agreed ks_X3_agreed kn_X3 kc_X3_agreed) rfl rfl (n := 1) (by decide +kernel) rfl ⟨by decide, by decide⟩ hl.1 rfl (Nat.le_of_ble_eq_true rfl) ⟨Nat.zero_le _, Nat.zero_le _⟩ dX4_counts_39 (fun r_39 q_39 => ?_)
          by_cases p_39 : σ.1 (34 + 4 * i) 5 = 1
          ·
            obtain rfl : r_39 = 1 := Eq.trans q_39 (if_pos p_39)
            refine lv_if_eq (tgt := 55) hx hb dX4_counts_42 (by decide) (fun cc => absurd cc (by decide)) (fun _ => ?_)
            refine lv_aload_n hx hb dX4_counts_45 rfl (lv_at hl 1 rfl) ?_
            refine fg3_5 X I i (by omega) kfX4_116 dX4_counts_46 ?_
            refine lv_iload_n hx hb dX4_counts_49 rfl (lv_at hl 2 rfl) ?_
            refine w_ld X I (35 + 4 * i) (by omega) (n := 200) (k := j) (fun _ _ _ => wc_log g α i _ _ _) rfl (by omega) (by decide) dX4_counts_50 ?_
            refine lv_iconst (v := (-1)) hx hb dX4_counts_51 (by decide) ?_
            refine lv_icmp_eq (tgt := 59) hx hb dX4_counts_52 (by decide) (fun c_52 => ?_) (fun c_52 => ?_)
            ·
              refine lv_iconst (v := 0) hx hb dX4_counts_59 (by decide) ?_
              exact w_zretS X hr hlk (Or.inl rfl) (by simp [cnP, p_2, p_10, p_20, c_32, p_39, c_52]) dX4_counts_60
            ·
              refine lv_iconst (v := 1) hx hb dX4_counts_55 (by decide) ?_
              refine lv_goto (tgt := 60) hx hb dX4_counts_56 (by decide) ?_
              exact w_zretS X hr hlk (Or.inr rfl) (by simp [cnP, p_2, p_10, p_20, c_32, p_39, c_52]) dX4_counts_60
          ·
            obtain rfl : r_39 = 0 := Eq.trans q_39 (if_neg p_39)
            refine lv_if_eq (tgt := 55) hx hb dX4_counts_42 (by decide) (fun _ => ?_) (fun cc => absurd cc (by decide))
            refine lv_iconst (v := 1) hx hb dX4_counts_55 (by decide) ?_
            refine lv_goto (tgt := 60) hx hb dX4_counts_56 (by decide) ?_
            exact w_zretS X hr hlk (Or.inr rfl) (by simp [cnP, p_2, p_10, p_20, c_32, p_39]) dX4_counts_60
        ·
          refine lv_iconst (v := 0) hx hb dX4_counts_35 (by decide) ?_
          exact w_zretS X hr hlk (Or.inl rfl) (by simp [cnP, p_2, p_10, p_20, c_32]) dX4_counts_36
      ·
        obtain rfl : r_20 = 0 := Eq.trans q_20 (if_neg p_20)
        refine lv_if_eq (tgt := 37) hx hb dX4_counts_23 (by decide) (fun _ => ?_) (fun cc => absurd cc (by decide))
        refine lv_aload_n hx hb dX4_counts_37 rfl (lv_at hl 1 rfl) ?_
        refine lv_iconst (v := 5) hx hb dX4_counts_38 (by decide) ?_
        refine w_vSi X I (32 + 4 * i) (by omega) (wc_ship g α i _ _ _) rfl (As := [.int 5]) (rest := []) (ctX3_agreed l g α N σ i 5 hN (by decide)) (wM_V kmX4_234 ki_X3_agreed ks_X3_agreed kn_X3 kc_X3_agreed) rfl rfl (n := 1) (by decide +kernel) rfl ⟨by decide, by decide⟩ hl.1 rfl (Nat.le_of_ble_eq_true rfl) ⟨Nat.zero_le _, Nat.zero_le _⟩ dX4_counts_39 (fun r_39 q_39 => ?_)
        by_cases p_39 : σ.1 (34 + 4 * i) 5 = 1
        ·
          obtain rfl : r_39 = 1 := Eq.trans q_39 (if_pos p_39)
          refine lv_if_eq (tgt := 55) hx hb dX4_counts_42 (by decide) (fun cc => absurd cc (by decide)) (fun _ => ?_)
          refine lv_aload_n hx hb dX4_counts_45 rfl (lv_at hl 1 rfl) ?_
          refine fg3_5 X I i (by omega) kfX4_116 dX4_counts_46 ?_
          refine lv_iload_n hx hb dX4_counts_49 rfl (lv_at hl 2 rfl) ?_
          refine w_ld X I (35 + 4 * i) (by omega) (n := 200) (k := j) (fun _ _ _ => wc_log g α i _ _ _) rfl (by omega) (by decide) dX4_counts_50 ?_
          refine lv_iconst (v := (-1)) hx hb dX4_counts_51 (by decide) ?_
          refine lv_icmp_eq (tgt := 59) hx hb dX4_counts_52 (by decide) (fun c_52 => ?_) (fun c_52 => ?_)
          ·
            refine lv_iconst (v := 0) hx hb dX4_counts_59 (by decide) ?_
            exact w_zretS X hr hlk (Or.inl rfl) (by simp [cnP, p_2, p_10, p_20, p_39, c_52]) dX4_counts_60
          ·
            refine lv_iconst (v := 1) hx hb dX4_counts_55 (by decide) ?_
            refine lv_goto (tgt := 60) hx hb dX4_counts_56 (by decide) ?_
            exact w_zretS X hr hlk (Or.inr rfl) (by simp [cnP, p_2, p_10, p_20, p_39, c_52]) dX4_counts_60
        ·
          obtain rfl : r_39 = 0 := Eq.trans q_39 (if_neg p_39)
          refine lv_if_eq (tgt := 55) hx hb dX4_counts_42 (by decide) (fun _ => ?_) (fun cc => absurd cc (by decide))
          refine lv_iconst (v := 1) hx hb dX4_counts_55 (by decide) ?_
          refine lv_goto (tgt := 60) hx hb dX4_counts_56 (by decide) ?_
          exact w_zretS X hr hlk (Or.inr rfl) (by simp [cnP, p_2, p_10, p_20, p_39]) dX4_counts_60
  ·
    obtain rfl : r_2 = 0 := Eq.trans q_2 (if_neg p_2)
    refine lv_if_eq (tgt := 18) hx hb dX4_counts_5 (by decide) (fun _ => ?_) (fun cc => absurd cc (by decide))
    refine lv_aload_n hx hb dX4_counts_18 rfl (lv_at hl 1 rfl) ?_
    refine lv_iconst (v := 4) hx hb dX4_counts_19 (by decide) ?_
    refine w_vSi X I (32 + 4 * i) (by omega) (wc_ship g α i _ _ _) rfl (As := [.int 4]) (rest := []) (ctX3_agreed l g α N σ i 4 hN (by decide)) (wM_V kmX4_234 ki_X3_agreed ks_X3_agreed kn_X3 kc_X3_agreed) rfl rfl (n := 1) (by decide +kernel) rfl ⟨by decide, by decide⟩ hl.1 rfl (Nat.le_of_ble_eq_true rfl) ⟨Nat.zero_le _, Nat.zero_le _⟩ dX4_counts_20 (fun r_20 q_20 => ?_)
    by_cases p_20 : σ.1 (34 + 4 * i) 4 = 1
    ·
      obtain rfl : r_20 = 1 := Eq.trans q_20 (if_pos p_20)
      refine lv_if_eq (tgt := 37) hx hb dX4_counts_23 (by decide) (fun cc => absurd cc (by decide)) (fun _ => ?_)
      refine lv_iload_n hx hb dX4_counts_26 rfl (lv_at hl 2 rfl) ?_
      refine lv_bipush (v := 7) hx hb dX4_counts_27 (by decide) ?_
      refine lv_irem hx hb dX4_counts_29 (by decide) ?_
      refine lv_bipush (v := 6) hx hb dX4_counts_30 (by decide) ?_
      refine lv_icmp_ne (tgt := 37) hx hb dX4_counts_32 (by decide) (fun c_32 => ?_) (fun c_32 => ?_)
      ·
        refine lv_aload_n hx hb dX4_counts_37 rfl (lv_at hl 1 rfl) ?_
        refine lv_iconst (v := 5) hx hb dX4_counts_38 (by decide) ?_
        refine w_vSi X I (32 + 4 * i) (by omega) (wc_ship g α i _ _ _) rfl (As := [.int 5]) (rest := []) (ctX3_agreed l g α N σ i 5 hN (by decide)) (wM_V kmX4_234 ki_X3_agreed ks_X3_agreed kn_X3 kc_X3_agreed) rfl rfl (n := 1) (by decide +kernel) rfl ⟨by decide, by decide⟩ hl.1 rfl (Nat.le_of_ble_eq_true rfl) ⟨Nat.zero_le _, Nat.zero_le _⟩ dX4_counts_39 (fun r_39 q_39 => ?_)
        by_cases p_39 : σ.1 (34 + 4 * i) 5 = 1
        ·
          obtain rfl : r_39 = 1 := Eq.trans q_39 (if_pos p_39)
          refine lv_if_eq (tgt := 55) hx hb dX4_counts_42 (by decide) (fun cc => absurd cc (by decide)) (fun _ => ?_)
          refine lv_aload_n hx hb dX4_counts_45 rfl (lv_at hl 1 rfl) ?_
          refine fg3_5 X I i (by omega) kfX4_116 dX4_counts_46 ?_
          refine lv_iload_n hx hb dX4_counts_49 rfl (lv_at hl 2 rfl) ?_
          refine w_ld X I (35 + 4 * i) (by omega) (n := 200) (k := j) (fun _ _ _ => wc_log g α i _ _ _) rfl (by omega) (by decide) dX4_counts_50 ?_
          refine lv_iconst (v := (-1)) hx hb dX4_counts_51 (by decide) ?_
          refine lv_icmp_eq (tgt := 59) hx hb dX4_counts_52 (by decide) (fun c_52 => ?_) (fun c_52 => ?_)
          ·
            refine lv_iconst (v := 0) hx hb dX4_counts_59 (by decide) ?_
            exact w_zretS X hr hlk (Or.inl rfl) (by simp [cnP, p_2, p_20, c_32, p_39, c_52]) dX4_counts_60
          ·
            refine lv_iconst (v := 1) hx hb dX4_counts_55 (by decide) ?_
            refine lv_goto (tgt := 60) hx hb dX4_counts_56 (by decide) ?_
            exact w_zretS X hr hlk (Or.inr rfl) (by simp [cnP, p_2, p_20, c_32, p_39, c_52]) dX4_counts_60
        ·
          obtain rfl : r_39 = 0 := Eq.trans q_39 (if_neg p_39)
          refine lv_if_eq (tgt := 55) hx hb dX4_counts_42 (by decide) (fun _ => ?_) (fun cc => absurd cc (by decide))
          refine lv_iconst (v := 1) hx hb dX4_counts_55 (by decide) ?_
          refine lv_goto (tgt := 60) hx hb dX4_counts_56 (by decide) ?_
          exact w_zretS X hr hlk (Or.inr rfl) (by simp [cnP, p_2, p_20, c_32, p_39]) dX4_counts_60
      ·
        refine lv_iconst (v := 0) hx hb dX4_counts_35 (by decide) ?_
        exact w_zretS X hr hlk (Or.inl rfl) (by simp [cnP, p_2, p_20, c_32]) dX4_counts_36
    ·
      obtain rfl : r_20 = 0 := Eq.trans q_20 (if_neg p_20)
      refine lv_if_eq (tgt := 37) hx hb dX4_counts_23 (by decide) (fun _ => ?_) (fun cc => absurd cc (by decide))
      refine lv_aload_n hx hb dX4_counts_37 rfl (lv_at hl 1 rfl) ?_
      refine lv_iconst (v := 5) hx hb dX4_counts_38 (by decide) ?_
      refine w_vSi X I (32 + 4 * i) (by omega) (wc_ship g α i _ _ _) rfl (As := [.int 5]) (rest := []) (ctX3_agreed l g α N σ i 5 hN (by decide)) (wM_V kmX4_234 ki_X3_agreed ks_X3_agreed kn_X3 kc_X3_agreed) rfl rfl (n := 1) (by decide +kernel) rfl ⟨by decide, by decide⟩ hl.1 rfl (Nat.le_of_ble_eq_true rfl) ⟨Nat.zero_le _, Nat.zero_le _⟩ dX4_counts_39 (fun r_39 q_39 => ?_)
      by_cases p_39 : σ.1 (34 + 4 * i) 5 = 1
      ·
        obtain rfl : r_39 = 1 := Eq.trans q_39 (if_pos p_39)
        refine lv_if_eq (tgt := 55) hx hb dX4_counts_42 (by decide) (fun cc => absurd cc (by decide)) (fun _ => ?_)
        refine lv_aload_n hx hb dX4_counts_45 rfl (lv_at hl 1 rfl) ?_
        refine fg3_5 X I i (by omega) kfX4_116 dX4_counts_46 ?_
        refine lv_iload_n hx hb dX4_counts_49 rfl (lv_at hl 2 rfl) ?_
        refine w_ld X I (35 + 4 * i) (by omega) (n := 200) (k := j) (fun _ _ _ => wc_log g α i _ _ _) rfl (by omega) (by decide) dX4_counts_50 ?_
        refine lv_iconst (v := (-1)) hx hb dX4_counts_51 (by decide) ?_
        refine lv_icmp_eq (tgt := 59) hx hb dX4_counts_52 (by decide) (fun c_52 => ?_) (fun c_52 => ?_)
        ·
          refine lv_iconst (v := 0) hx hb dX4_counts_59 (by decide) ?_
          exact w_zretS X hr hlk (Or.inl rfl) (by simp [cnP, p_2, p_20, p_39, c_52]) dX4_counts_60
        ·
          refine lv_iconst (v := 1) hx hb dX4_counts_55 (by decide) ?_
          refine lv_goto (tgt := 60) hx hb dX4_counts_56 (by decide) ?_
          exact w_zretS X hr hlk (Or.inr rfl) (by simp [cnP, p_2, p_20, p_39, c_52]) dX4_counts_60
      ·
        obtain rfl : r_39 = 0 := Eq.trans q_39 (if_neg p_39)
        refine lv_if_eq (tgt := 55) hx hb dX4_counts_42 (by decide) (fun _ => ?_) (fun cc => absurd cc (by decide))
        refine lv_iconst (v := 1) hx hb dX4_counts_55 (by decide) ?_
        refine lv_goto (tgt := 60) hx hb dX4_counts_56 (by decide) ?_
        exact w_zretS X hr hlk (Or.inr rfl) (by simp [cnP, p_2, p_20, p_39]) dX4_counts_60
end
section
variable {l : Launch} {g : wG} {α : Nat → Nat} {N : Nat} {σ : wS} {p : Program} {e : Env} {s : State} {m : MethodId} {args : Array Value} {below : List Frame} {meth : Method} {c : Code}
set_option maxHeartbeats 4000000 in
set_option maxRecDepth 100000 in
theorem ctX4_lastDayOf (l : Launch) (g : wG) (α : Nat → Nat) (N : Nat) (σ : wS) (i d : Nat) (hN : 36 + 4 * i ≤ N) (hd : σ.1 0 6 = nI d) (hd200 : d ≤ 200) : Met l yX4_lastDayOf (wM yX4_lastDayOf cX4_lastDayOf 2 (some FieldType.int)) ({ frames := 1, cells := 0, slots := 0, locals := 20 } : Room) (wPc g α N σ [.ref (α 0), .ref (α (32 + 4 * i))]) (vp_Si (fun r => r = if ¬ σ.1 (32 + 4 * i) 9 = (-9) then σ.1 (32 + 4 * i) 9 else nI d - 1)) 0 0 (fun _ => False) := by
  refine w_enterS (by decide) (Nat.le_of_ble_eq_true rfl) (fun p e s m args below meth c X I hr hlk ls hl => ?_)
  have hx := X.1.1
  have hb := X.1.2.1
  have hl : lv_has ls 2 [(0, .ref (α 0)), (1, .ref (α (32 + 4 * i)))] := hl
  refine lv_aload_n hx hb dX4_lastDayOf_0 rfl (lv_at hl 1 rfl) ?_
  refine w_vSi X I (32 + 4 * i) (by omega) (wc_ship g α i _ _ _) rfl (As := []) (rest := []) (ctX3_isLoaded l g α N σ i hN) (wM_V kmX4_119 ki_X3_isLoaded ks_X3_isLoaded kn_X3 kc_X3_isLoaded) rfl rfl (n := 0) (by decide +kernel) rfl ⟨by decide, by decide⟩ hl.1 rfl (Nat.le_of_ble_eq_true rfl) ⟨Nat.zero_le _, Nat.zero_le _⟩ dX4_lastDayOf_1 (fun r_1 q_1 => ?_)
  by_cases p_1 : ¬ σ.1 (32 + 4 * i) 9 = (-9)
  ·
    obtain rfl : r_1 = 1 := Eq.trans q_1 (if_pos p_1)
    refine lv_if_eq (tgt := 14) hx hb dX4_lastDayOf_4 (by decide) (fun cc => absurd cc (by decide)) (fun _ => ?_)
    refine lv_aload_n hx hb dX4_lastDayOf_7 rfl (lv_at hl 1 rfl) ?_
    refine fg3_9 X I i (by omega) kfX4_106 dX4_lastDayOf_8 ?_
    refine lv_goto (tgt := 20) hx hb dX4_lastDayOf_11 (by decide) ?_
    exact w_iretS X hr hlk (by simp [p_1]) dX4_lastDayOf_20
  ·
    obtain rfl : r_1 = 0 := Eq.trans q_1 (if_neg p_1)
    refine lv_if_eq (tgt := 14) hx hb dX4_lastDayOf_4 (by decide) (fun _ => ?_) (fun cc => absurd cc (by decide))
    refine lv_aload_n hx hb dX4_lastDayOf_14 rfl (lv_at hl 0 rfl) ?_
    refine fg4_6 X I (by omega) kfX4_43 dX4_lastDayOf_15 ?_
    refine w_eqi hd ?_
    refine lv_iconst (v := 1) hx hb dX4_lastDayOf_18 (by decide) ?_
    refine lv_isub hx hb dX4_lastDayOf_19 ?_
    exact w_iretS X hr hlk (by simp [p_1]) dX4_lastDayOf_20
end
section
variable {l : Launch} {g : wG} {α : Nat → Nat} {N : Nat} {σ : wS} {p : Program} {e : Env} {s : State} {m : MethodId} {args : Array Value} {below : List Frame} {meth : Method} {c : Code}
set_option maxHeartbeats 4000000 in
set_option maxRecDepth 100000 in
theorem ctX4_shareOf (l : Launch) (g : wG) (α : Nat → Nat) (N : Nat) (σ : wS) (i j : Nat) (hN : 36 + 4 * i ≤ N) (hj : j < 200) : Met l yX4_shareOf (wM yX4_shareOf cX4_shareOf 3 (some FieldType.int)) ({ frames := 1, cells := 0, slots := 0, locals := 21 } : Room) (wPc g α N σ [.ref (α 0), .ref (α (32 + 4 * i)), .int (nI j)]) (vp_Si (fun r => r = shF (σ.1 1) (σ.1 (35 + 4 * i)) j)) 0 0 (fun _ => False) := by
  refine w_enterS (by decide) (Nat.le_of_ble_eq_true rfl) (fun p e s m args below meth c X I hr hlk ls hl => ?_)
  have hx := X.1.1
  have hb := X.1.2.1
  have hl : lv_has ls 3 [(0, .ref (α 0)), (1, .ref (α (32 + 4 * i))), (2, .int (nI j))] := hl
  refine lv_aload_n hx hb dX4_shareOf_0 rfl (lv_at hl 0 rfl) ?_
  refine lv_iload_n hx hb dX4_shareOf_1 rfl (lv_at hl 2 rfl) ?_
  refine w_vSi X I 0 (by omega) rfl rfl (As := [.int (nI j)]) (rest := []) (ctX4_lightersShut l g α N σ j (by omega) (by omega)) (wM_V kmX4_231 ki_X4_lightersShut ks_X4_lightersShut kn_X4 kc_X4_lightersShut) rfl rfl (n := 1) (by decide +kernel) rfl ⟨by decide, by decide⟩ hl.1 rfl (Nat.le_of_ble_eq_true rfl) ⟨Nat.zero_le _, Nat.zero_le _⟩ dX4_shareOf_2 (fun r_2 q_2 => ?_)
  by_cases p_2 : 7 < σ.1 1 j
  ·
    obtain rfl : r_2 = 1 := Eq.trans q_2 (if_pos p_2)
    refine lv_if_eq (tgt := 10) hx hb dX4_shareOf_5 (by decide) (fun cc => absurd cc (by decide)) (fun _ => ?_)
    refine lv_iconst (v := 0) hx hb dX4_shareOf_8 (by decide) ?_
    exact w_iretS X hr hlk (by simp [shF, p_2]) dX4_shareOf_9
  ·
    obtain rfl : r_2 = 0 := Eq.trans q_2 (if_neg p_2)
    refine lv_if_eq (tgt := 10) hx hb dX4_shareOf_5 (by decide) (fun _ => ?_) (fun cc => absurd cc (by decide))
    refine lv_aload_n hx hb dX4_shareOf_10 rfl (lv_at hl 1 rfl) ?_
    refine fg3_5 X I i (by omega) kfX4_116 dX4_shareOf_11 ?_
    refine lv_iload_n hx hb dX4_shareOf_14 rfl (lv_at hl 2 rfl) ?_
    refine w_ld X I (35 + 4 * i) (by omega) (n := 200) (k := j) (fun _ _ _ => wc_log g α i _ _ _) rfl (by omega) (by decide) dX4_shareOf_15 ?_
    refine lv_if_ne (tgt := 23) hx hb dX4_shareOf_16 (by decide) (fun c_16 => ?_) (fun c_16 => ?_)
    ·
      refine lv_iconst (v := 2) hx hb dX4_shareOf_23 (by decide) ?_
      exact w_iretS X hr hlk (by simp [shF, p_2, c_16]) dX4_shareOf_24
    ·
      refine lv_iconst (v := 1) hx hb dX4_shareOf_19 (by decide) ?_
      refine lv_goto (tgt := 24) hx hb dX4_shareOf_20 (by decide) ?_
      exact w_iretS X hr hlk (by simp [shF, p_2, c_16]) dX4_shareOf_24
end
section
variable {l : Launch} {g : wG} {α : Nat → Nat} {N : Nat} {σ : wS} {p : Program} {e : Env} {s : State} {m : MethodId} {args : Array Value} {below : List Frame} {meth : Method} {c : Code}
set_option maxHeartbeats 4000000 in
set_option maxRecDepth 100000 in
theorem lpX4_usedBy_7 (i d a0 e2 : Nat) (X : wX p s m args c cX4_usedBy 4 RX4 g) (I : wI g α N (fun _ => True) s.heap s.heap [] σ) (hr : meth.sig.returnType = (some FieldType.int)) (hlk : meth.locks = false) (hN : 36 + 4 * i ≤ N) (hd : σ.1 0 6 = nI d) (hd200 : d ≤ 200) (hlast : (if ¬ σ.1 (32 + 4 * i) 9 = (-9) then σ.1 (32 + 4 * i) 9 else nI d - 1) = nI e2 - 1) (hae : a0 ≤ e2) (hed : e2 ≤ d) (har : σ.1 (32 + 4 * i) 2 = nI a0) : ∀ (fu : Nat) (t : Nat) (acc : Int32), e2 + 1 ≤ a0 + t + fu → a0 + t ≤ e2 → acc = smI (inF (σ.1 (34 + 4 * i)) (σ.1 1) (σ.1 (35 + 4 * i)) a0) t → ∀ ls : Array Slot, lv_has ls 4 [(0, .ref (α 0)), (1, .ref (α (32 + 4 * i))), (2, .int acc), (3, .int (nI (a0 + t)))] → W p l e ({ frames := 2, cells := 0, slots := 0, locals := 43 } : Room) s m args below meth c s.heap [] 0 0 (MQ below (vp_Si (fun r => r = usF (σ.1 (34 + 4 * i)) (σ.1 1) (σ.1 (35 + 4 * i)) a0 e2)) args s 0 0 (fun _ => False)) (F0 m 7 ls []) := by
  have hx := X.1.1
  have hb := X.1.2.1
  intro fu
  induction fu with
  | zero =>
    intro t acc hfu hk ha
    exact absurd hfu (by omega)
  | succ fu ih =>
    intro t acc hfu hk ha ls hl
    refine lv_iload_n hx hb dX4_usedBy_7 rfl (lv_at hl 3 rfl) ?_
    refine lv_aload_n hx hb dX4_usedBy_8 rfl (lv_at hl 0 rfl) ?_
    refine lv_aload_n hx hb dX4_usedBy_9 rfl (lv_at hl 1 rfl) ?_
    refine w_vSi X I 0 (by omega) rfl rfl (As := [.ref (α (32 + 4 * i))]) (rest := [.int (nI (a0 + t))]) (ctX4_lastDayOf l g α N σ i d hN hd hd200) (wM_V kmX4_161 ki_X4_lastDayOf ks_X4_lastDayOf kn_X4 kc_X4_lastDayOf) rfl rfl (n := 1) (by decide +kernel) rfl ⟨by decide, by decide⟩ hl.1 rfl (Nat.le_of_ble_eq_true rfl) ⟨Nat.zero_le _, Nat.zero_le _⟩ dX4_usedBy_10 (fun r_10 q_10 => ?_)
    replace q_10 : r_10 = if ¬ σ.1 (32 + 4 * i) 9 = (-9) then σ.1 (32 + 4 * i) 9 else nI d - 1 := q_10
    subst q_10
    refine w_eqi hlast ?_
    refine lv_icmp_gt (tgt := 34) hx hb dX4_usedBy_13 (by decide) (fun c_13 => ?_) (fun c_13 => ?_)
    ·
      have e : a0 + t = e2 := by have := (m1_lt (by omega) (by omega)).mp c_13; omega
      refine lv_iload_n hx hb dX4_usedBy_34 rfl (lv_at hl 2 rfl) ?_
      exact w_iretS X hr hlk (by rw [ha, usF, ← e, Nat.add_sub_cancel_left]) dX4_usedBy_35
    ·
      have hlt : a0 + t < e2 := Nat.lt_of_not_le (fun z => c_13 ((m1_lt (by omega) (by omega)).mpr z))
      refine lv_aload_n hx hb dX4_usedBy_16 rfl (lv_at hl 0 rfl) ?_
      refine lv_aload_n hx hb dX4_usedBy_17 rfl (lv_at hl 1 rfl) ?_
      refine lv_iload_n hx hb dX4_usedBy_18 rfl (lv_at hl 3 rfl) ?_
      refine w_vSi X I 0 (by omega) rfl rfl (As := [.ref (α (32 + 4 * i)), .int (nI (a0 + t))]) (rest := []) (ctX4_counts l g α N σ i (a0 + t) hN (by omega)) (wM_V kmX4_164 ki_X4_counts ks_X4_counts kn_X4 kc_X4_counts) rfl rfl (n := 2) (by decide +kernel) rfl ⟨by decide, by decide⟩ hl.1 rfl (Nat.le_of_ble_eq_true rfl) ⟨Nat.zero_le _, Nat.zero_le _⟩ dX4_usedBy_19 (fun r_19 q_19 => ?_)
      by_cases p_19 : cnP (σ.1 (34 + 4 * i)) (σ.1 1) (σ.1 (35 + 4 * i)) (a0 + t)
      ·
        obtain rfl : r_19 = 1 := Eq.trans q_19 (if_pos p_19)
        refine lv_if_eq (tgt := 28) hx hb dX4_usedBy_22 (by decide) (fun cc => absurd cc (by decide)) (fun _ => ?_)
        refine lv_iinc (v := acc + 1) (lv' := [(2, .int (acc + 1)), (0, .ref (α 0)), (1, .ref (α (32 + 4 * i))), (3, .int (nI (a0 + t)))]) hx hb dX4_usedBy_25 hl (k := 2) rfl rfl (by decide) rfl (fun ls hl => ?_)
        refine lv_iinc (v := nI ((a0 + t) + 1)) (lv' := [(3, .int (nI ((a0 + t) + 1))), (2, .int (acc + 1)), (0, .ref (α 0)), (1, .ref (α (32 + 4 * i)))]) hx hb dX4_usedBy_28 hl (k := 3) rfl (nI_1 _) (by decide) rfl (fun ls hl => ?_)
        refine lv_goto (tgt := 7) hx hb dX4_usedBy_31 (by decide) ?_
        exact ih (t + 1) (acc + 1) (by omega) (by omega) (by rw [ha, smI, inF]; first | rw [if_pos p_19] | (rw [if_neg p_19]; simp)) ls (lv_sub hl [2, 3, 1, 0] rfl)
      ·
        obtain rfl : r_19 = 0 := Eq.trans q_19 (if_neg p_19)
        refine lv_if_eq (tgt := 28) hx hb dX4_usedBy_22 (by decide) (fun _ => ?_) (fun cc => absurd cc (by decide))
        refine lv_iinc (v := nI ((a0 + t) + 1)) (lv' := [(3, .int (nI ((a0 + t) + 1))), (0, .ref (α 0)), (1, .ref (α (32 + 4 * i))), (2, .int acc)]) hx hb dX4_usedBy_28 hl (k := 3) rfl (nI_1 _) (by decide) rfl (fun ls hl => ?_)
        refine lv_goto (tgt := 7) hx hb dX4_usedBy_31 (by decide) ?_
        exact ih (t + 1) acc (by omega) (by omega) (by rw [ha, smI, inF]; first | rw [if_pos p_19] | (rw [if_neg p_19]; simp)) ls (lv_sub hl [1, 2, 3, 0] rfl)
set_option maxHeartbeats 4000000 in
set_option maxRecDepth 100000 in
theorem ctX4_usedBy (l : Launch) (g : wG) (α : Nat → Nat) (N : Nat) (σ : wS) (i d a0 e2 : Nat) (hN : 36 + 4 * i ≤ N) (hd : σ.1 0 6 = nI d) (hd200 : d ≤ 200) (hlast : (if ¬ σ.1 (32 + 4 * i) 9 = (-9) then σ.1 (32 + 4 * i) 9 else nI d - 1) = nI e2 - 1) (hae : a0 ≤ e2) (hed : e2 ≤ d) (har : σ.1 (32 + 4 * i) 2 = nI a0) : Met l yX4_usedBy (wM yX4_usedBy cX4_usedBy 4 (some FieldType.int)) ({ frames := 2, cells := 0, slots := 0, locals := 43 } : Room) (wPc g α N σ [.ref (α 0), .ref (α (32 + 4 * i))]) (vp_Si (fun r => r = usF (σ.1 (34 + 4 * i)) (σ.1 1) (σ.1 (35 + 4 * i)) a0 e2)) 0 0 (fun _ => False) := by
  refine w_enterS (by decide) (Nat.le_of_ble_eq_true rfl) (fun p e s m args below meth c X I hr hlk ls hl => ?_)
  have hx := X.1.1
  have hb := X.1.2.1
  have hl : lv_has ls 4 [(0, .ref (α 0)), (1, .ref (α (32 + 4 * i)))] := hl
  refine lv_iconst (v := 0) hx hb dX4_usedBy_0 (by decide) ?_
  refine lv_istore_n (lv' := [(2, .int 0), (0, .ref (α 0)), (1, .ref (α (32 + 4 * i)))]) hx hb dX4_usedBy_1 rfl hl (by decide) rfl (fun ls hl => ?_)
  refine lv_aload_n hx hb dX4_usedBy_2 rfl (lv_at hl 2 rfl) ?_
  refine fg3_2 X I i (by omega) kfX4_95 dX4_usedBy_3 ?_
  refine w_eqi har ?_
  refine lv_istore_n (lv' := [(3, .int (nI a0)), (2, .int 0), (0, .ref (α 0)), (1, .ref (α (32 + 4 * i)))]) hx hb dX4_usedBy_6 rfl hl (by decide) rfl (fun ls hl => ?_)
  exact lpX4_usedBy_7 i d a0 e2 X I hr hlk hN hd hd200 hlast hae hed har  (e2 + 1) 0 0 (by omega) (by omega) rfl ls (lv_sub hl [2, 3, 1, 0] rfl)
end
section
variable {l : Launch} {g : wG} {α : Nat → Nat} {N : Nat} {σ : wS} {p : Program} {e : Env} {s : State} {m : MethodId} {args : Array Value} {below : List Frame} {meth : Method} {c : Code}
def owF (us : Int32) (tr : Nat → Int32) (lo : Prop) [Decidable lo] : Int32 := if 0 < us - tr 0 then (us - tr 0) * tr 1 else if lo then (us - tr 0) * tr 2 else 0
set_option maxHeartbeats 4000000 in
set_option maxRecDepth 100000 in
theorem ctX4_owedBy (l : Launch) (g : wG) (α : Nat → Nat) (N : Nat) (σ : wS) (i d a0 e2 : Nat) (hN : 36 + 4 * i ≤ N) (hd : σ.1 0 6 = nI d) (hd200 : d ≤ 200) (hlast : (if ¬ σ.1 (32 + 4 * i) 9 = (-9) then σ.1 (32 + 4 * i) 9 else nI d - 1) = nI e2 - 1) (hae : a0 ≤ e2) (hed : e2 ≤ d) (har : σ.1 (32 + 4 * i) 2 = nI a0) : Met l yX4_owedBy (wM yX4_owedBy cX4_owedBy 3 (some FieldType.int)) ({ frames := 3, cells := 0, slots := 0, locals := 66 } : Room) (wPc g α N σ [.ref (α 0), .ref (α (32 + 4 * i))]) (vp_Si (fun r => r = owF (usF (σ.1 (34 + 4 * i)) (σ.1 1) (σ.1 (35 + 4 * i)) a0 e2) (σ.1 (34 + 4 * i)) (¬ σ.1 (32 + 4 * i) 9 = (-9)))) 0 0 (fun _ => False) := by
  refine w_enterS (by decide) (Nat.le_of_ble_eq_true rfl) (fun p e s m args below meth c X I hr hlk ls hl => ?_)
  have hx := X.1.1
  have hb := X.1.2.1
  have hl : lv_has ls 3 [(0, .ref (α 0)), (1, .ref (α (32 + 4 * i)))] := hl
  refine lv_aload_n hx hb dX4_owedBy_0 rfl (lv_at hl 0 rfl) ?_
  refine lv_aload_n hx hb dX4_owedBy_1 rfl (lv_at hl 1 rfl) ?_
  refine w_vSi X I 0 (by omega) rfl rfl (As := [.ref (α (32 + 4 * i))]) (rest := []) (ctX4_usedBy l g α N σ i d a0 e2 hN hd hd200 hlast hae hed har) (wM_V kmX4_154 ki_X4_usedBy ks_X4_usedBy kn_X4 kc_X4_usedBy) rfl rfl (n := 1) (by decide +kernel) rfl ⟨by decide, by decide⟩ hl.1 rfl (Nat.le_of_ble_eq_true rfl) ⟨Nat.zero_le _, Nat.zero_le _⟩ dX4_owedBy_2 (fun r_2 q_2 => ?_)
  replace q_2 : r_2 = usF (σ.1 (34 + 4 * i)) (σ.1 1) (σ.1 (35 + 4 * i)) a0 e2 := q_2
  subst q_2
  refine lv_aload_n hx hb dX4_owedBy_5 rfl (lv_at hl 1 rfl) ?_
  refine fg3_4 X I i (by omega) kfX4_146 dX4_owedBy_6 ?_
  refine lv_iconst (v := 0) hx hb dX4_owedBy_9 (by decide) ?_
  refine w_ld X I (34 + 4 * i) (by omega) (n := 6) (k := 0) (fun _ _ _ => wc_terms g α i _ _ _) rfl (by decide) (by decide) dX4_owedBy_10 ?_
  refine lv_isub hx hb dX4_owedBy_11 ?_
  refine lv_istore_n (lv' := [(2, .int ((usF (σ.1 (34 + 4 * i)) (σ.1 1) (σ.1 (35 + 4 * i)) a0 e2) - (σ.1 (34 + 4 * i) 0))), (0, .ref (α 0)), (1, .ref (α (32 + 4 * i)))]) hx hb dX4_owedBy_12 rfl hl (by decide) rfl (fun ls hl => ?_)
  refine lv_iload_n hx hb dX4_owedBy_13 rfl (lv_at hl 0 rfl) ?_
  refine lv_if_le (tgt := 26) hx hb dX4_owedBy_14 (by decide) (fun c_14 => ?_) (fun c_14 => ?_)
  ·
    have c_14 : ¬ 0 < usF (σ.1 (34 + 4 * i)) (σ.1 1) (σ.1 (35 + 4 * i)) a0 e2 - σ.1 (34 + 4 * i) 0 := Int32.not_lt.mpr c_14
    refine lv_aload_n hx hb dX4_owedBy_26 rfl (lv_at hl 2 rfl) ?_
    refine w_vSi X I (32 + 4 * i) (by omega) (wc_ship g α i _ _ _) rfl (As := []) (rest := []) (ctX3_isLoaded l g α N σ i hN) (wM_V kmX4_119 ki_X3_isLoaded ks_X3_isLoaded kn_X3 kc_X3_isLoaded) rfl rfl (n := 0) (by decide +kernel) rfl ⟨by decide, by decide⟩ hl.1 rfl (Nat.le_of_ble_eq_true rfl) ⟨Nat.zero_le _, Nat.zero_le _⟩ dX4_owedBy_27 (fun r_27 q_27 => ?_)
    by_cases p_27 : ¬ σ.1 (32 + 4 * i) 9 = (-9)
    ·
      obtain rfl : r_27 = 1 := Eq.trans q_27 (if_pos p_27)
      refine lv_if_eq (tgt := 44) hx hb dX4_owedBy_30 (by decide) (fun cc => absurd cc (by decide)) (fun _ => ?_)
      refine lv_iload_n hx hb dX4_owedBy_33 rfl (lv_at hl 0 rfl) ?_
      refine lv_aload_n hx hb dX4_owedBy_34 rfl (lv_at hl 2 rfl) ?_
      refine fg3_4 X I i (by omega) kfX4_146 dX4_owedBy_35 ?_
      refine lv_iconst (v := 2) hx hb dX4_owedBy_38 (by decide) ?_
      refine w_ld X I (34 + 4 * i) (by omega) (n := 6) (k := 2) (fun _ _ _ => wc_terms g α i _ _ _) rfl (by decide) (by decide) dX4_owedBy_39 ?_
      refine lv_imul hx hb dX4_owedBy_40 ?_
      refine lv_goto (tgt := 45) hx hb dX4_owedBy_41 (by decide) ?_
      exact w_iretS X hr hlk (by simp [owF, c_14, p_27]) dX4_owedBy_45
    ·
      obtain rfl : r_27 = 0 := Eq.trans q_27 (if_neg p_27)
      refine lv_if_eq (tgt := 44) hx hb dX4_owedBy_30 (by decide) (fun _ => ?_) (fun cc => absurd cc (by decide))
      refine lv_iconst (v := 0) hx hb dX4_owedBy_44 (by decide) ?_
      exact w_iretS X hr hlk (by simp [owF, c_14, p_27]) dX4_owedBy_45
  ·
    have c_14 : 0 < usF (σ.1 (34 + 4 * i)) (σ.1 1) (σ.1 (35 + 4 * i)) a0 e2 - σ.1 (34 + 4 * i) 0 := Int32.not_le.mp c_14
    refine lv_iload_n hx hb dX4_owedBy_17 rfl (lv_at hl 0 rfl) ?_
    refine lv_aload_n hx hb dX4_owedBy_18 rfl (lv_at hl 2 rfl) ?_
    refine fg3_4 X I i (by omega) kfX4_146 dX4_owedBy_19 ?_
    refine lv_iconst (v := 1) hx hb dX4_owedBy_22 (by decide) ?_
    refine w_ld X I (34 + 4 * i) (by omega) (n := 6) (k := 1) (fun _ _ _ => wc_terms g α i _ _ _) rfl (by decide) (by decide) dX4_owedBy_23 ?_
    refine lv_imul hx hb dX4_owedBy_24 ?_
    exact w_iretS X hr hlk (by simp [owF, c_14]) dX4_owedBy_25
end
section
variable {l : Launch} {g : wG} {α : Nat → Nat} {N : Nat} {σ : wS} {p : Program} {e : Env} {s : State} {m : MethodId} {args : Array Value} {below : List Frame} {meth : Method} {c : Code}
set_option maxHeartbeats 4000000 in
set_option maxRecDepth 100000 in
theorem ctX4_owed (l : Launch) (g : wG) (α : Nat → Nat) (N : Nat) (σ : wS) (a b : Int32) (n d : Nat) (ar en : Nat → Nat) (hn : σ.1 0 7 = nI n) (hn10 : n ≤ 10) (hN : 32 + 4 * n ≤ N) (hd : σ.1 0 6 = nI d) (hd200 : d ≤ 200) (hR : ∀ k, k < n → σ.2.2 5 k = some (32 + 4 * k)) (hae : ∀ k, k < n → ar k ≤ en k) (hed : ∀ k, k < n → en k ≤ d) (har : ∀ k, k < n → σ.1 (32 + 4 * k) 2 = nI (ar k)) (hlast : ∀ k, k < n → (if ¬ σ.1 (32 + 4 * k) 9 = (-9) then σ.1 (32 + 4 * k) 9 else nI d - 1) = nI (en k) - 1) : Met l yX4_owed (wM yX4_owed cX4_owed 4 (some FieldType.int)) ({ frames := 4, cells := 0, slots := 0, locals := 88 } : Room) (wPc g α N σ [.ref (α 0), .int a, .int b]) (vp_Si (fun r => r = spq n a (-1000000) (fun k => if ¬ b < 0 ∧ ¬ 1 < b then (if b = 0 then usF (σ.1 (34 + 4 * k)) (σ.1 1) (σ.1 (35 + 4 * k)) (ar k) (en k) else owF (usF (σ.1 (34 + 4 * k)) (σ.1 1) (σ.1 (35 + 4 * k)) (ar k) (en k)) (σ.1 (34 + 4 * k)) (¬ σ.1 (32 + 4 * k) 9 = (-9))) else (-1000000)))) 0 0 (fun _ => False) := by
  refine w_enterS (by decide) (Nat.le_of_ble_eq_true rfl) (fun p e s m args below meth c X I hr hlk ls hl => ?_)
  have hx := X.1.1
  have hb := X.1.2.1
  have hl : lv_has ls 4 [(0, .ref (α 0)), (1, .int a), (2, .int b)] := hl
  refine lv_aload_n hx hb dX4_owed_0 rfl (lv_at hl 0 rfl) ?_
  refine lv_iload_n hx hb dX4_owed_1 rfl (lv_at hl 1 rfl) ?_
  refine w_vSq X I 0 (by omega) rfl rfl (As := [.int a]) (rest := []) (ctX4_shipNumbered l g α N σ a n hn hn10 hN hR) (wM_V kmX4_78 ki_X4_shipNumbered ks_X4_shipNumbered kn_X4 kc_X4_shipNumbered) rfl rfl (n := 1) (by decide +kernel) rfl ⟨by decide, by decide⟩ hl.1 rfl (Nat.le_of_ble_eq_true rfl) ⟨Nat.zero_le _, Nat.zero_le _⟩ dX4_owed_2 (fun r_2 q_2 => ?_)
  replace q_2 : (∀ k, k < n → a = nI k → r_2 = some (α (32 + 4 * k))) ∧ ((a < 0 ∨ nI n ≤ a) → r_2 = none) := q_2
  rcases ix2 a (n := n) (by omega) with hbad | ⟨k, hk, rfl⟩
  ·
    obtain rfl : r_2 = none := q_2.2 hbad
    refine w_eqv (y := .null) rfl ?_
    refine lv_astore_nN (lv' := [(3, .null), (0, .ref (α 0)), (1, .int a), (2, .int b)]) hx hb dX4_owed_5 rfl hl (by decide) rfl (fun ls hl => ?_)
    refine lv_aload_nN hx hb dX4_owed_6 rfl (lv_at hl 0 rfl) ?_
    refine lv_ifnullN (tgt := 19) hx hb dX4_owed_7 (by decide) ?_
    refine lv_ldc hx hb X.1.2.2.2.1 (X.1.2.2.2.2 _ kkX4_153) dX4_owed_19 ?_
    exact w_iretS X hr hlk (by first | exact (spq_bad hbad).symm | (rw [spq_ok hk (by omega), if_pos p_13, if_pos c_23]; done) | (rw [spq_ok hk (by omega), if_pos p_13, if_neg c_23]; done) | (rw [spq_ok hk (by omega), if_neg p_13]; done)) dX4_owed_21
  ·
    obtain rfl : r_2 = some (α (32 + 4 * k)) := q_2.1 k hk rfl
    clear q_2
    refine w_eqv (y := .ref (α (32 + 4 * k))) rfl ?_
    refine lv_astore_n (lv' := [(3, .ref (α (32 + 4 * k))), (0, .ref (α 0)), (1, .int (nI k)), (2, .int b)]) hx hb dX4_owed_5 rfl hl (by decide) rfl (fun ls hl => ?_)
    refine lv_aload_n hx hb dX4_owed_6 rfl (lv_at hl 0 rfl) ?_
    refine lv_ifnull hx hb dX4_owed_7 ?_
    refine lv_iload_n hx hb dX4_owed_10 rfl (lv_at hl 3 rfl) ?_
    refine lv_iconst (v := 0) hx hb dX4_owed_11 (by decide) ?_
    refine lv_iconst (v := 1) hx hb dX4_owed_12 (by decide) ?_
    refine w_sSi X I (As := [.int b, .int 0, .int 1]) (rest := []) (ctX4_within l g α N σ _ _ _ ) (wM_S kmX4_57 kt_X4_within kn_X4 kc_X4_within) rfl rfl (n := 3) (by decide +kernel) rfl ⟨by decide, by decide⟩ hl.1 rfl (Nat.le_of_ble_eq_true rfl) ⟨Nat.zero_le _, Nat.zero_le _⟩ dX4_owed_13 (fun r_13 q_13 => ?_)
    by_cases p_13 : ¬ b < 0 ∧ ¬ 1 < b
    ·
      obtain rfl : r_13 = 1 := Eq.trans q_13 (if_pos p_13)
      refine lv_if_ne (tgt := 22) hx hb dX4_owed_16 (by decide) (fun _ => ?_) (fun cc => absurd cc (by decide))
      refine lv_iload_n hx hb dX4_owed_22 rfl (lv_at hl 3 rfl) ?_
      refine lv_if_ne (tgt := 34) hx hb dX4_owed_23 (by decide) (fun c_23 => ?_) (fun c_23 => ?_)
      ·
        refine lv_aload_n hx hb dX4_owed_34 rfl (lv_at hl 1 rfl) ?_
        refine lv_aload_n hx hb dX4_owed_35 rfl (lv_at hl 0 rfl) ?_
        refine w_vSi X I 0 (by omega) rfl rfl (As := [.ref (α (32 + 4 * k))]) (rest := []) (ctX4_owedBy l g α N σ k d (ar k) (en k) (by omega) hd hd200 (hlast k hk) (hae k hk) (hed k hk) (har k hk)) (wM_V kmX4_158 ki_X4_owedBy ks_X4_owedBy kn_X4 kc_X4_owedBy) rfl rfl (n := 1) (by decide +kernel) rfl ⟨by decide, by decide⟩ hl.1 rfl (Nat.le_of_ble_eq_true rfl) ⟨Nat.zero_le _, Nat.zero_le _⟩ dX4_owed_36 (fun r_36 q_36 => ?_)
        replace q_36 : r_36 = owF (usF (σ.1 (34 + 4 * k)) (σ.1 1) (σ.1 (35 + 4 * k)) (ar k) (en k)) (σ.1 (34 + 4 * k)) (¬ σ.1 (32 + 4 * k) 9 = (-9)) := q_36
        subst q_36
        exact w_iretS X hr hlk (by first | exact (spq_bad hbad).symm | (rw [spq_ok hk (by omega), if_pos p_13, if_pos c_23]; done) | (rw [spq_ok hk (by omega), if_pos p_13, if_neg c_23]; done) | (rw [spq_ok hk (by omega), if_neg p_13]; done)) dX4_owed_39
      ·
        refine lv_aload_n hx hb dX4_owed_26 rfl (lv_at hl 1 rfl) ?_
        refine lv_aload_n hx hb dX4_owed_27 rfl (lv_at hl 0 rfl) ?_
        refine w_vSi X I 0 (by omega) rfl rfl (As := [.ref (α (32 + 4 * k))]) (rest := []) (ctX4_usedBy l g α N σ k d (ar k) (en k) (by omega) hd hd200 (hlast k hk) (hae k hk) (hed k hk) (har k hk)) (wM_V kmX4_154 ki_X4_usedBy ks_X4_usedBy kn_X4 kc_X4_usedBy) rfl rfl (n := 1) (by decide +kernel) rfl ⟨by decide, by decide⟩ hl.1 rfl (Nat.le_of_ble_eq_true rfl) ⟨Nat.zero_le _, Nat.zero_le _⟩ dX4_owed_28 (fun r_28 q_28 => ?_)
        replace q_28 : r_28 = usF (σ.1 (34 + 4 * k)) (σ.1 1) (σ.1 (35 + 4 * k)) (ar k) (en k) := q_28
        subst q_28
        refine lv_goto (tgt := 39) hx hb dX4_owed_31 (by decide) ?_
        exact w_iretS X hr hlk (by first | exact (spq_bad hbad).symm | (rw [spq_ok hk (by omega), if_pos p_13, if_pos c_23]; done) | (rw [spq_ok hk (by omega), if_pos p_13, if_neg c_23]; done) | (rw [spq_ok hk (by omega), if_neg p_13]; done)) dX4_owed_39
    ·
      obtain rfl : r_13 = 0 := Eq.trans q_13 (if_neg p_13)
      refine lv_if_ne (tgt := 22) hx hb dX4_owed_16 (by decide) (fun cc => absurd cc (by decide)) (fun _ => ?_)
      refine lv_ldc hx hb X.1.2.2.2.1 (X.1.2.2.2.2 _ kkX4_153) dX4_owed_19 ?_
      exact w_iretS X hr hlk (by first | exact (spq_bad hbad).symm | (rw [spq_ok hk (by omega), if_pos p_13, if_pos c_23]; done) | (rw [spq_ok hk (by omega), if_pos p_13, if_neg c_23]; done) | (rw [spq_ok hk (by omega), if_neg p_13]; done)) dX4_owed_21
end
section
variable {l : Launch} {g : wG} {α : Nat → Nat} {N : Nat} {σ : wS} {p : Program} {e : Env} {s : State} {m : MethodId} {args : Array Value} {below : List Frame} {meth : Method} {c : Code}
set_option maxHeartbeats 4000000 in
set_option maxRecDepth 100000 in
theorem lpX4_shared_33 (a b : Int32) (n d : Nat) (ar en : Nat → Nat) (X : wX p s m args c cX4_shared 7 RX4 g) (I : wI g α N (fun _ => True) s.heap s.heap [] σ) (hr : meth.sig.returnType = (some FieldType.int)) (hlk : meth.locks = false) (hn : σ.1 0 7 = nI n) (hn10 : n ≤ 10) (hN : 32 + 4 * n ≤ N) (hd : σ.1 0 6 = nI d) (hd200 : d ≤ 200) (hR : ∀ k, k < n → σ.2.2 5 k = some (32 + 4 * k)) (hae : ∀ k, k < n → ar k ≤ en k) (hed : ∀ k, k < n → en k ≤ d) (har : ∀ k, k < n → σ.1 (32 + 4 * k) 2 = nI (ar k)) (hlast : ∀ k, k < n → (if ¬ σ.1 (32 + 4 * k) 9 = (-9) then σ.1 (32 + 4 * k) 9 else nI d - 1) = nI (en k) - 1) : ∀ (fu : Nat) (k : Nat) (t : Nat) (co : Int32) (fo : Int32), en k + 1 ≤ ar k + t + fu → k < n → ¬ b < 0 ∧ ¬ 2 < b → a = nI k → ar k + t ≤ en k → co = smI (inF (σ.1 (34 + 4 * k)) (σ.1 1) (σ.1 (35 + 4 * k)) (ar k)) t → fo = smI (shG (σ.1 (34 + 4 * k)) (σ.1 1) (σ.1 (35 + 4 * k)) b (ar k)) t → ∀ ls : Array Slot, lv_has ls 7 [(0, .ref (α 0)), (2, .int b), (3, .ref (α (32 + 4 * k))), (4, .int co), (5, .int fo), (6, .int (nI (ar k + t)))] → W p l e ({ frames := 2, cells := 0, slots := 0, locals := 43 } : Room) s m args below meth c s.heap [] 0 0 (MQ below (vp_Si (fun r => r = spq n a (-1) (fun k => if ¬ b < 0 ∧ ¬ 2 < b then smI (shG (σ.1 (34 + 4 * k)) (σ.1 1) (σ.1 (35 + 4 * k)) b (ar k)) (en k - ar k) else (-1)))) args s 0 0 (fun _ => False)) (F0 m 33 ls []) := by
  have hx := X.1.1
  have hb := X.1.2.1
  intro fu
  induction fu with
  | zero =>
    intro k t co fo hfu hk hbb hka ht h1 h2
    exact absurd hfu (by omega)
  | succ fu ih =>
    intro k t co fo hfu hk hbb hka ht h1 h2 ls hl
    have hedk := hed k hk
    refine lv_iload hx hb dX4_shared_33 (lv_at hl 5 rfl) ?_
    refine lv_aload_n hx hb dX4_shared_35 rfl (lv_at hl 0 rfl) ?_
    refine lv_aload_n hx hb dX4_shared_36 rfl (lv_at hl 2 rfl) ?_
    refine w_vSi X I 0 (by omega) rfl rfl (As := [.ref (α (32 + 4 * k))]) (rest := [.int (nI (ar k + t))]) (ctX4_lastDayOf l g α N σ k d (by omega) hd hd200) (wM_V kmX4_161 ki_X4_lastDayOf ks_X4_lastDayOf kn_X4 kc_X4_lastDayOf) rfl rfl (n := 1) (by decide +kernel) rfl ⟨by decide, by decide⟩ hl.1 rfl (Nat.le_of_ble_eq_true rfl) ⟨Nat.zero_le _, Nat.zero_le _⟩ dX4_shared_37 (fun r_37 q_37 => ?_)
    replace q_37 : r_37 = if ¬ σ.1 (32 + 4 * k) 9 = (-9) then σ.1 (32 + 4 * k) 9 else nI d - 1 := q_37
    subst q_37
    refine w_eqi (hlast k hk) ?_
    refine lv_icmp_gt (tgt := 87) hx hb dX4_shared_40 (by decide) (fun c_40 => ?_) (fun c_40 => ?_)
    ·
      have e : ar k + t = en k := by have := (m1_lt (by omega) (by omega)).mp c_40; omega
      refine lv_iload hx hb dX4_shared_87 (lv_at hl 4 rfl) ?_
      exact w_iretS X hr hlk (by first | exact (spq_bad hbad).symm | (rw [spq_ok hk (by omega), if_neg p_13]; done) | (rw [hka, spq_ok hk (by omega), if_pos hbb, h2, ← e, Nat.add_sub_cancel_left])) dX4_shared_89
    ·
      have hlt : ar k + t < en k := Nat.lt_of_not_le (fun z => c_40 ((m1_lt (by omega) (by omega)).mpr z))
      refine lv_aload_n hx hb dX4_shared_43 rfl (lv_at hl 0 rfl) ?_
      refine lv_aload_n hx hb dX4_shared_44 rfl (lv_at hl 2 rfl) ?_
      refine lv_iload hx hb dX4_shared_45 (lv_at hl 5 rfl) ?_
      refine w_vSi X I 0 (by omega) rfl rfl (As := [.ref (α (32 + 4 * k)), .int (nI (ar k + t))]) (rest := []) (ctX4_counts l g α N σ k (ar k + t) (by omega) (by have := hed k hk; omega)) (wM_V kmX4_164 ki_X4_counts ks_X4_counts kn_X4 kc_X4_counts) rfl rfl (n := 2) (by decide +kernel) rfl ⟨by decide, by decide⟩ hl.1 rfl (Nat.le_of_ble_eq_true rfl) ⟨Nat.zero_le _, Nat.zero_le _⟩ dX4_shared_47 (fun r_47 q_47 => ?_)
      by_cases p_47 : cnP (σ.1 (34 + 4 * k)) (σ.1 1) (σ.1 (35 + 4 * k)) (ar k + t)
      ·
        obtain rfl : r_47 = 1 := Eq.trans q_47 (if_pos p_47)
        refine lv_if_eq (tgt := 81) hx hb dX4_shared_50 (by decide) (fun cc => absurd cc (by decide)) (fun _ => ?_)
        refine lv_iinc (v := co + 1) (lv' := [(4, .int (co + 1)), (0, .ref (α 0)), (2, .int b), (3, .ref (α (32 + 4 * k))), (5, .int fo), (6, .int (nI (ar k + t)))]) hx hb dX4_shared_53 hl (k := 3) rfl rfl (by decide) rfl (fun ls hl => ?_)
        refine lv_iload hx hb dX4_shared_56 (lv_at hl 0 rfl) ?_
        refine lv_aload_n hx hb dX4_shared_58 rfl (lv_at hl 3 rfl) ?_
        refine fg3_4 X I k (by omega) kfX4_146 dX4_shared_59 ?_
        refine lv_iconst (v := 0) hx hb dX4_shared_62 (by decide) ?_
        refine w_ld X I (34 + 4 * k) (by omega) (n := 6) (k := 0) (fun _ _ _ => wc_terms g α k _ _ _) rfl (by decide) (by decide) dX4_shared_63 ?_
        refine lv_icmp_le (tgt := 81) hx hb dX4_shared_64 (by decide) (fun c_64 => ?_) (fun c_64 => ?_)
        ·
          have hlay : ¬ σ.1 (34 + 4 * k) 0 < smI (inF (σ.1 (34 + 4 * k)) (σ.1 1) (σ.1 (35 + 4 * k)) (ar k)) (t + 1) := by rw [smI, inF, if_pos p_47, ← h1]; exact Int32.not_lt.mpr c_64
          refine lv_iinc (v := nI ((ar k + t) + 1)) (lv' := [(6, .int (nI ((ar k + t) + 1))), (4, .int (co + 1)), (0, .ref (α 0)), (2, .int b), (3, .ref (α (32 + 4 * k))), (5, .int fo)]) hx hb dX4_shared_81 hl (k := 5) rfl (nI_1 _) (by decide) rfl (fun ls hl => ?_)
          refine lv_goto (tgt := 33) hx hb dX4_shared_84 (by decide) ?_
          exact ih k (t + 1) (co + 1) fo (by omega) hk hbb hka (by omega) (by rw [h1, smI, inF]; first | rw [if_pos p_47] | (rw [if_neg p_47]; simp)) (by rw [h2, smI, shG]; first | (rw [if_pos ⟨p_47, hlay, c_75⟩]; done) | (rw [if_neg (fun z => c_75 z.2.2)]; simp; done) | (rw [if_neg (fun z => hlay z.2.1)]; simp; done) | (rw [if_neg (fun z => p_47 z.1)]; simp; done)) ls (lv_sub hl [2, 3, 4, 1, 5, 0] rfl)
        ·
          have hlay : σ.1 (34 + 4 * k) 0 < smI (inF (σ.1 (34 + 4 * k)) (σ.1 1) (σ.1 (35 + 4 * k)) (ar k)) (t + 1) := by rw [smI, inF, if_pos p_47, ← h1]; exact Int32.not_le.mp c_64
          refine lv_aload_n hx hb dX4_shared_67 rfl (lv_at hl 1 rfl) ?_
          refine lv_aload_n hx hb dX4_shared_68 rfl (lv_at hl 3 rfl) ?_
          refine lv_iload hx hb dX4_shared_69 (lv_at hl 5 rfl) ?_
          refine w_vSi X I 0 (by omega) rfl rfl (As := [.ref (α (32 + 4 * k)), .int (nI (ar k + t))]) (rest := []) (ctX4_shareOf l g α N σ k (ar k + t) (by omega) (by have := hed k hk; omega)) (wM_V kmX4_168 ki_X4_shareOf ks_X4_shareOf kn_X4 kc_X4_shareOf) rfl rfl (n := 2) (by decide +kernel) rfl ⟨by decide, by decide⟩ hl.1 rfl (Nat.le_of_ble_eq_true rfl) ⟨Nat.zero_le _, Nat.zero_le _⟩ dX4_shared_71 (fun r_71 q_71 => ?_)
          replace q_71 : r_71 = shF (σ.1 1) (σ.1 (35 + 4 * k)) (ar k + t) := q_71
          subst q_71
          refine lv_iload_n hx hb dX4_shared_74 rfl (lv_at hl 2 rfl) ?_
          refine lv_icmp_ne (tgt := 81) hx hb dX4_shared_75 (by decide) (fun c_75 => ?_) (fun c_75 => ?_)
          ·
            refine lv_iinc (v := nI ((ar k + t) + 1)) (lv' := [(6, .int (nI ((ar k + t) + 1))), (4, .int (co + 1)), (0, .ref (α 0)), (2, .int b), (3, .ref (α (32 + 4 * k))), (5, .int fo)]) hx hb dX4_shared_81 hl (k := 5) rfl (nI_1 _) (by decide) rfl (fun ls hl => ?_)
            refine lv_goto (tgt := 33) hx hb dX4_shared_84 (by decide) ?_
            exact ih k (t + 1) (co + 1) fo (by omega) hk hbb hka (by omega) (by rw [h1, smI, inF]; first | rw [if_pos p_47] | (rw [if_neg p_47]; simp)) (by rw [h2, smI, shG]; first | (rw [if_pos ⟨p_47, hlay, c_75⟩]; done) | (rw [if_neg (fun z => c_75 z.2.2)]; simp; done) | (rw [if_neg (fun z => hlay z.2.1)]; simp; done) | (rw [if_neg (fun z => p_47 z.1)]; simp; done)) ls (lv_sub hl [2, 3, 4, 1, 5, 0] rfl)
          ·
            refine lv_iinc (v := fo + 1) (lv' := [(5, .int (fo + 1)), (4, .int (co + 1)), (0, .ref (α 0)), (2, .int b), (3, .ref (α (32 + 4 * k))), (6, .int (nI (ar k + t)))]) hx hb dX4_shared_78 hl (k := 4) rfl rfl (by decide) rfl (fun ls hl => ?_)
            refine lv_iinc (v := nI ((ar k + t) + 1)) (lv' := [(6, .int (nI ((ar k + t) + 1))), (5, .int (fo + 1)), (4, .int (co + 1)), (0, .ref (α 0)), (2, .int b), (3, .ref (α (32 + 4 * k)))]) hx hb dX4_shared_81 hl (k := 5) rfl (nI_1 _) (by decide) rfl (fun ls hl => ?_)
            refine lv_goto (tgt := 33) hx hb dX4_shared_84 (by decide) ?_
            exact ih k (t + 1) (co + 1) (fo + 1) (by omega) hk hbb hka (by omega) (by rw [h1, smI, inF]; first | rw [if_pos p_47] | (rw [if_neg p_47]; simp)) (by rw [h2, smI, shG]; first | (rw [if_pos ⟨p_47, hlay, c_75⟩]; done) | (rw [if_neg (fun z => c_75 z.2.2)]; simp; done) | (rw [if_neg (fun z => hlay z.2.1)]; simp; done) | (rw [if_neg (fun z => p_47 z.1)]; simp; done)) ls (lv_sub hl [3, 4, 5, 2, 1, 0] rfl)
      ·
        obtain rfl : r_47 = 0 := Eq.trans q_47 (if_neg p_47)
        refine lv_if_eq (tgt := 81) hx hb dX4_shared_50 (by decide) (fun _ => ?_) (fun cc => absurd cc (by decide))
        refine lv_iinc (v := nI ((ar k + t) + 1)) (lv' := [(6, .int (nI ((ar k + t) + 1))), (0, .ref (α 0)), (2, .int b), (3, .ref (α (32 + 4 * k))), (4, .int co), (5, .int fo)]) hx hb dX4_shared_81 hl (k := 5) rfl (nI_1 _) (by decide) rfl (fun ls hl => ?_)
        refine lv_goto (tgt := 33) hx hb dX4_shared_84 (by decide) ?_
        exact ih k (t + 1) co fo (by omega) hk hbb hka (by omega) (by rw [h1, smI, inF]; first | rw [if_pos p_47] | (rw [if_neg p_47]; simp)) (by rw [h2, smI, shG]; first | (rw [if_pos ⟨p_47, hlay, c_75⟩]; done) | (rw [if_neg (fun z => c_75 z.2.2)]; simp; done) | (rw [if_neg (fun z => hlay z.2.1)]; simp; done) | (rw [if_neg (fun z => p_47 z.1)]; simp; done)) ls (lv_sub hl [1, 2, 3, 4, 5, 0] rfl)
set_option maxHeartbeats 4000000 in
set_option maxRecDepth 100000 in
theorem ctX4_shared (l : Launch) (g : wG) (α : Nat → Nat) (N : Nat) (σ : wS) (a b : Int32) (n d : Nat) (ar en : Nat → Nat) (hn : σ.1 0 7 = nI n) (hn10 : n ≤ 10) (hN : 32 + 4 * n ≤ N) (hd : σ.1 0 6 = nI d) (hd200 : d ≤ 200) (hR : ∀ k, k < n → σ.2.2 5 k = some (32 + 4 * k)) (hae : ∀ k, k < n → ar k ≤ en k) (hed : ∀ k, k < n → en k ≤ d) (har : ∀ k, k < n → σ.1 (32 + 4 * k) 2 = nI (ar k)) (hlast : ∀ k, k < n → (if ¬ σ.1 (32 + 4 * k) 9 = (-9) then σ.1 (32 + 4 * k) 9 else nI d - 1) = nI (en k) - 1) : Met l yX4_shared (wM yX4_shared cX4_shared 7 (some FieldType.int)) ({ frames := 2, cells := 0, slots := 0, locals := 43 } : Room) (wPc g α N σ [.ref (α 0), .int a, .int b]) (vp_Si (fun r => r = spq n a (-1) (fun k => if ¬ b < 0 ∧ ¬ 2 < b then smI (shG (σ.1 (34 + 4 * k)) (σ.1 1) (σ.1 (35 + 4 * k)) b (ar k)) (en k - ar k) else (-1)))) 0 0 (fun _ => False) := by
  refine w_enterS (by decide) (Nat.le_of_ble_eq_true rfl) (fun p e s m args below meth c X I hr hlk ls hl => ?_)
  have hx := X.1.1
  have hb := X.1.2.1
  have hl : lv_has ls 7 [(0, .ref (α 0)), (1, .int a), (2, .int b)] := hl
  refine lv_aload_n hx hb dX4_shared_0 rfl (lv_at hl 0 rfl) ?_
  refine lv_iload_n hx hb dX4_shared_1 rfl (lv_at hl 1 rfl) ?_
  refine w_vSq X I 0 (by omega) rfl rfl (As := [.int a]) (rest := []) (ctX4_shipNumbered l g α N σ a n hn hn10 hN hR) (wM_V kmX4_78 ki_X4_shipNumbered ks_X4_shipNumbered kn_X4 kc_X4_shipNumbered) rfl rfl (n := 1) (by decide +kernel) rfl ⟨by decide, by decide⟩ hl.1 rfl (Nat.le_of_ble_eq_true rfl) ⟨Nat.zero_le _, Nat.zero_le _⟩ dX4_shared_2 (fun r_2 q_2 => ?_)
  replace q_2 : (∀ k, k < n → a = nI k → r_2 = some (α (32 + 4 * k))) ∧ ((a < 0 ∨ nI n ≤ a) → r_2 = none) := q_2
  rcases ix2 a (n := n) (by omega) with hbad | ⟨k, hk, rfl⟩
  ·
    obtain rfl : r_2 = none := q_2.2 hbad
    refine w_eqv (y := .null) rfl ?_
    refine lv_astore_nN (lv' := [(3, .null), (0, .ref (α 0)), (1, .int a), (2, .int b)]) hx hb dX4_shared_5 rfl hl (by decide) rfl (fun ls hl => ?_)
    refine lv_aload_nN hx hb dX4_shared_6 rfl (lv_at hl 0 rfl) ?_
    refine lv_ifnullN (tgt := 19) hx hb dX4_shared_7 (by decide) ?_
    refine lv_iconst (v := (-1)) hx hb dX4_shared_19 (by decide) ?_
    exact w_iretS X hr hlk (by first | exact (spq_bad hbad).symm | (rw [spq_ok hk (by omega), if_neg p_13]; done) | (rw [hka, spq_ok hk (by omega), if_pos hbb, h2, ← e, Nat.add_sub_cancel_left])) dX4_shared_20
  ·
    obtain rfl : r_2 = some (α (32 + 4 * k)) := q_2.1 k hk rfl
    clear q_2
    refine w_eqv (y := .ref (α (32 + 4 * k))) rfl ?_
    refine lv_astore_n (lv' := [(3, .ref (α (32 + 4 * k))), (0, .ref (α 0)), (1, .int (nI k)), (2, .int b)]) hx hb dX4_shared_5 rfl hl (by decide) rfl (fun ls hl => ?_)
    refine lv_aload_n hx hb dX4_shared_6 rfl (lv_at hl 0 rfl) ?_
    refine lv_ifnull hx hb dX4_shared_7 ?_
    refine lv_iload_n hx hb dX4_shared_10 rfl (lv_at hl 3 rfl) ?_
    refine lv_iconst (v := 0) hx hb dX4_shared_11 (by decide) ?_
    refine lv_iconst (v := 2) hx hb dX4_shared_12 (by decide) ?_
    refine w_sSi X I (As := [.int b, .int 0, .int 2]) (rest := []) (ctX4_within l g α N σ _ _ _ ) (wM_S kmX4_57 kt_X4_within kn_X4 kc_X4_within) rfl rfl (n := 3) (by decide +kernel) rfl ⟨by decide, by decide⟩ hl.1 rfl (Nat.le_of_ble_eq_true rfl) ⟨Nat.zero_le _, Nat.zero_le _⟩ dX4_shared_13 (fun r_13 q_13 => ?_)
    by_cases p_13 : ¬ b < 0 ∧ ¬ 2 < b
    ·
      obtain rfl : r_13 = 1 := Eq.trans q_13 (if_pos p_13)
      refine lv_if_ne (tgt := 21) hx hb dX4_shared_16 (by decide) (fun _ => ?_) (fun cc => absurd cc (by decide))
      refine lv_iconst (v := 0) hx hb dX4_shared_21 (by decide) ?_
      refine lv_istore (lv' := [(4, .int 0), (3, .ref (α (32 + 4 * k))), (0, .ref (α 0)), (1, .int (nI k)), (2, .int b)]) hx hb dX4_shared_22 hl (by decide) rfl (fun ls hl => ?_)
      refine lv_iconst (v := 0) hx hb dX4_shared_24 (by decide) ?_
      refine lv_istore (lv' := [(5, .int 0), (4, .int 0), (3, .ref (α (32 + 4 * k))), (0, .ref (α 0)), (1, .int (nI k)), (2, .int b)]) hx hb dX4_shared_25 hl (by decide) rfl (fun ls hl => ?_)
      refine lv_aload_n hx hb dX4_shared_27 rfl (lv_at hl 2 rfl) ?_
      refine fg3_2 X I k (by omega) kfX4_95 dX4_shared_28 ?_
      refine w_eqi (har k hk) ?_
      refine lv_istore (lv' := [(6, .int (nI (ar k))), (5, .int 0), (4, .int 0), (3, .ref (α (32 + 4 * k))), (0, .ref (α 0)), (1, .int (nI k)), (2, .int b)]) hx hb dX4_shared_31 hl (by decide) rfl (fun ls hl => ?_)
      exact lpX4_shared_33 (nI k) b n d ar en X I hr hlk hn hn10 hN hd hd200 hR hae hed har hlast  (en k + 1) k 0 0 0 (by omega) hk p_13 rfl (by have := hae k hk; omega) rfl rfl ls (lv_sub hl [4, 6, 3, 2, 1, 0] rfl)
    ·
      obtain rfl : r_13 = 0 := Eq.trans q_13 (if_neg p_13)
      refine lv_if_ne (tgt := 21) hx hb dX4_shared_16 (by decide) (fun cc => absurd cc (by decide)) (fun _ => ?_)
      refine lv_iconst (v := (-1)) hx hb dX4_shared_19 (by decide) ?_
      exact w_iretS X hr hlk (by first | exact (spq_bad hbad).symm | (rw [spq_ok hk (by omega), if_neg p_13]; done) | (rw [hka, spq_ok hk (by omega), if_pos hbb, h2, ← e, Nat.add_sub_cancel_left])) dX4_shared_20
end
end
section
theorem m1e (x : Int32) : x + Int32.ofInt (-1) = x - 1 := by rw [Int32.sub_eq_add_neg]; rfl
theorem m1_neg {j : Nat} (h : j < 2 ^ 30) : nI j - 1 < 0 ↔ j = 0 := by
  rw [Int32.lt_iff_toInt_lt, nI_ti h]
  show (j : Int) - 1 < 0 ↔ j = 0
  omega
theorem nI_neN {j : Nat} (h : j < 2 ^ 31) {x : Int32} (hx : x < 0) : ¬ nI j = x := fun z => nI_pos h (by rw [z]; exact hx)
theorem max6 {j : Nat} (h : j < 2 ^ 29) : (if 0 < nI j - 7 + 1 then nI j - 7 + 1 else 0) = nI (j - 6) := by
  have e : nI j - 7 + 1 = nI j - nI 6 := by
    apply Int32.toInt_inj.mp
    rw [Int32.toInt_add, Int32.toInt_sub, Int32.toInt_sub, nI_toInt (by omega)]
    simp [Int32.toInt_ofNat, nI]
    rw [show (j : Int) - 7 + 1 = j - 6 by omega]
  rw [e]
  by_cases h6 : 6 < j
  · have h0 : 0 < nI j - nI 6 := by rw [pk_sub (by omega)]; exact nI_lt (a := 0) (by omega) (by omega)
    rw [if_pos h0, pk_sub (by omega)]
  · have h0 : ¬ 0 < nI j - nI 6 := by
      rw [Int32.lt_iff_toInt_lt, pk_sub_toInt (by omega) (by decide)]
      show ¬ (0 : Int) < _
      omega
    rw [if_neg h0, show j - 6 = 0 by omega]
    rfl
theorem fgN {j : Nat} : nI j - nI (j - 6) + 1 = nI (j + 1 - (j - 6)) := by
  rw [pk_sub (by omega), nI_1]
  congr 1
  omega
def lcI (o : Option Nat) : Int32 := match o with
  | none => (-9)
  | some j => nI j
def spQ {β : Type} (n : Nat) (a : Int32) (bad : β) (F : Nat → β) : β := if a < 0 ∨ nI n ≤ a then bad else F a.toNatClampNeg
theorem spQ_bad {β : Type} {n : Nat} {a : Int32} {bad : β} {F : Nat → β} (h : a < 0 ∨ nI n ≤ a) : spQ n a bad F = bad := if_pos h
theorem spQ_ok {β : Type} {n k : Nat} {bad : β} {F : Nat → β} (h : k < n) (hn : n < 2 ^ 31) : spQ n (nI k) bad F = F k := by
  rw [spQ, if_neg (nbad h hn), nI_clamp (by omega)]
theorem sw_k {a : Int32} {d : Nat} (hd : d ≤ 200) (h : ¬ a < nI d ∧ ¬ 200 < a) : ∃ k, d ≤ k ∧ k ≤ 200 ∧ a = nI k := by
  obtain ⟨k, hk, rfl⟩ := nI_btw (x := a) (n := 200) (fun z => h.1 (by
    rw [Int32.lt_iff_toInt_lt] at z ⊢
    rw [nI_toInt (by omega)]
    have : (0 : Int32).toInt = 0 := rfl
    omega)) h.2 (by decide)
  exact ⟨k, Nat.le_of_not_lt (fun z => h.1 (nI_lt z (by omega))), hk, rfl⟩
def ltF (q dg cm : Nat → Int32) (d : Nat) (a b : Int32) : Int32 := if ¬ a < 0 ∧ ¬ 200 < a then (if ¬ b < 0 ∧ ¬ 2 < b then spq d a (-9) (fun k => if cm k ≤ nI d then (if b = 0 then q k else if b = 1 then dg k else cm k) else (-9)) else (-1)) else (-1)
/-- what the writing methods do -/
def laS (σ : wS) (ly : Nat) (t w : Int32) : wS := wu (wu (wu σ 3 ly t) 4 ly w) 2 2 (nI (ly + 1))
def laF (σ : wS) (ly : Nat) (t w : Int32) : Int32 × wS := if ¬ t < 1 ∧ ¬ 5000 < t then (if ¬ w < 1 ∧ ¬ 100 < w then (if nI ly < 6 then (nI ly, laS σ ly t w) else ((-3), σ)) else ((-1), σ)) else ((-1), σ)
def swF (σ : wS) (d : Nat) (a v : Int32) : Int32 × wS := if ¬ a < nI d ∧ ¬ 200 < a then (if ¬ v < 0 ∧ ¬ 9 < v then (σ.1 1 a.toNatClampNeg, wu σ 1 a.toNatClampNeg v) else ((-1), σ)) else ((-1), σ)
def boF (σ : wS) (k : Nat) (b : Int32) : Int32 × wS := if ¬ b < 1 ∧ ¬ 90 < b then (if ¬ σ.1 (32 + 4 * k) 9 = (-9) then ((-2), σ) else ((if σ.1 (32 + 4 * k) 8 + b < 90 then σ.1 (32 + 4 * k) 8 + b else 90), wu σ (32 + 4 * k) 8 (if σ.1 (32 + 4 * k) 8 + b < 90 then σ.1 (32 + 4 * k) 8 + b else 90))) else ((-1), σ)
def byF (v : Int64) (i : Nat) : Int32 := ((v.toUInt64 >>> ((8 * nI i).toInt64.toUInt64 &&& Int64.toUInt64 63)).toInt64).toInt32 &&& 255
def apS (σ : wS) (v : Int64) (m dr : Nat) : Nat → wS
  | 0 => σ
  | t + 1 => wu (wu (apS σ v m dr t) 8 (dr + t) (byF v (m - 1 - t))) 7 2 (nI (dr + t + 1))
def tyF (σ : wS) (dr : Nat) (v : Int64) (b : Int32) : Int32 × wS := if ¬ b < 1 ∧ ¬ 8 < b then (if nI dr + b ≤ 30 then (nI (dr + b.toNatClampNeg), apS σ v b.toNatClampNeg dr b.toNatClampNeg) else ((-3), σ)) else ((-1), σ)
def drF (σ : wS) (i k : Nat) : wS := if ¬ σ.1 (32 + 4 * i) 9 = (-9) then σ else (if (if 0 < σ.1 (32 + 4 * i) 8 - 1 then σ.1 (32 + 4 * i) 8 - 1 else 0) = 0 then wu (wu σ (32 + 4 * i) 8 (if 0 < σ.1 (32 + 4 * i) 8 - 1 then σ.1 (32 + 4 * i) 8 - 1 else 0)) (35 + 4 * i) k (-1) else wu σ (32 + 4 * i) 8 (if 0 < σ.1 (32 + 4 * i) 8 - 1 then σ.1 (32 + 4 * i) 8 - 1 else 0))
def tkF (σ : wS) (i : Nat) (t : Int32) (k : Nat) : wS := if σ.1 (32 + 4 * i) 6 - t = 0 then wu (wu (wu (wu σ (32 + 4 * i) 6 (σ.1 (32 + 4 * i) 6 - t)) (32 + 4 * i) 7 (σ.1 (32 + 4 * i) 7 + t)) (35 + 4 * i) k t) (32 + 4 * i) 9 (nI k) else wu (wu (wu σ (32 + 4 * i) 6 (σ.1 (32 + 4 * i) 6 - t)) (32 + 4 * i) 7 (σ.1 (32 + 4 * i) 7 + t)) (35 + 4 * i) k t
def dgP (s : wS) (u mo : Int32) (k : Nat) : Int32 := if s.1 3 k < mo - u then s.1 3 k else mo - u
def dgS (σ : wS) (i : Nat) (mo : Int32) : Nat → wS × Int32
  | 0 => (σ, 0)
  | k + 1 => (wu (wu (dgS σ i mo k).1 3 k ((dgS σ i mo k).1.1 3 k - dgP (dgS σ i mo k).1 (dgS σ i mo k).2 mo k)) (33 + 4 * i) k ((dgS σ i mo k).1.1 (33 + 4 * i) k + dgP (dgS σ i mo k).1 (dgS σ i mo k).2 mo k), (dgS σ i mo k).2 + dgP (dgS σ i mo k).1 (dgS σ i mo k).2 mo k)
def taF (sw : Int32) (pl : Nat) : Int32 := if ¬ 2 ≤ nI pl ∧ ¬ 4 < sw then 60 else if 7 < sw then 0 else 15
theorem dgS_2 (σ : wS) (i : Nat) (mo : Int32) : ∀ k, (dgS σ i mo k).1.2 = σ.2
  | 0 => rfl
  | k + 1 => (dgS_2 σ i mo k)
theorem dgS_o (σ : wS) (i : Nat) (mo : Int32) {j q : Nat} (h : j ≠ 3) (h2 : j ≠ 33 + 4 * i) : ∀ k, (dgS σ i mo k).1.1 j q = σ.1 j q
  | 0 => rfl
  | k + 1 => by rw [dgS]; exact (wu_o h2).trans ((wu_o h).trans (dgS_o σ i mo h h2 k))
theorem apS_2 (σ : wS) (v : Int64) (m dr : Nat) : ∀ k, (apS σ v m dr k).2 = σ.2
  | 0 => rfl
  | k + 1 => (apS_2 σ v m dr k)
theorem apS_o (σ : wS) (v : Int64) (m dr : Nat) {j q : Nat} (h : j ≠ 7) (h2 : j ≠ 8) : ∀ k, (apS σ v m dr k).1 j q = σ.1 j q
  | 0 => rfl
  | k + 1 => by rw [apS]; exact (wu_o h).trans ((wu_o h2).trans (apS_o σ v m dr h h2 k))
end
section
section
variable {l : Launch} {g : wG} {α : Nat → Nat} {N : Nat} {σ : wS} {p : Program} {e : Env} {s : State} {m : MethodId} {args : Array Value} {below : List Frame} {meth : Method} {c : Code}
set_option maxHeartbeats 4000000 in
set_option maxRecDepth 100000 in
theorem lpX2_dugFrom_5 (a e2 : Nat) (b : Int32) (X : wX p s m args c cX2_dugFrom 5 RX2 g) (I : wI g α N (fun _ => True) s.heap s.heap [] σ) (hr : meth.sig.returnType = (some FieldType.int)) (hlk : meth.locks = false) (hN : 32 ≤ N) (hbe : b = nI e2 - 1) (hae : a ≤ e2) (he2 : e2 ≤ 200) : ∀ (fu : Nat) (t : Nat) (acc : Int32), e2 + 1 ≤ a + t + fu → a + t ≤ e2 → acc = smI (fun t => σ.1 12 (a + t)) t → ∀ ls : Array Slot, lv_has ls 5 [(0, .ref (α 10)), (2, .int b), (3, .int acc), (4, .int (nI (a + t)))] → W p l e ({ frames := 0, cells := 0, slots := 0, locals := 0 } : Room) s m args below meth c s.heap [] 0 0 (MQ below (vp_Si (fun r => r = smI (fun t => σ.1 12 (a + t)) (e2 - a))) args s 0 0 (fun _ => False)) (F0 m 5 ls []) := by
  have hx := X.1.1
  have hb := X.1.2.1
  intro fu
  induction fu with
  | zero =>
    intro t acc hfu hk ha
    exact absurd hfu (by omega)
  | succ fu ih =>
    intro t acc hfu hk ha ls hl
    refine lv_iload hx hb dX2_dugFrom_5 (lv_at hl 3 rfl) ?_
    refine lv_iload_n hx hb dX2_dugFrom_7 rfl (lv_at hl 1 rfl) ?_
    refine w_eqi hbe ?_
    refine lv_icmp_gt (tgt := 27) hx hb dX2_dugFrom_8 (by decide) (fun c_8 => ?_) (fun c_8 => ?_)
    ·
      have e : a + t = e2 := by have := (m1_lt (by omega) (by omega)).mp c_8; omega
      refine lv_iload_n hx hb dX2_dugFrom_27 rfl (lv_at hl 2 rfl) ?_
      exact w_iretS X hr hlk (by rw [ha, ← e, Nat.add_sub_cancel_left]) dX2_dugFrom_28
    ·
      have hlt : a + t < e2 := Nat.lt_of_not_le (fun z => c_8 ((m1_lt (by omega) (by omega)).mpr z))
      refine lv_iload_n hx hb dX2_dugFrom_11 rfl (lv_at hl 2 rfl) ?_
      refine lv_aload_n hx hb dX2_dugFrom_12 rfl (lv_at hl 0 rfl) ?_
      refine fg2_1 X I (by omega) kfX2_15 dX2_dugFrom_13 ?_
      refine lv_iload hx hb dX2_dugFrom_16 (lv_at hl 3 rfl) ?_
      refine w_ld X I 12 (by omega) (n := 200) (k := a + t) (fun _ _ _ => rfl) rfl (by omega) (by decide) dX2_dugFrom_18 ?_
      refine lv_iadd hx hb dX2_dugFrom_19 ?_
      refine lv_istore_n (lv' := [(3, .int (acc + (σ.1 12 (a + t)))), (0, .ref (α 10)), (2, .int b), (4, .int (nI (a + t)))]) hx hb dX2_dugFrom_20 rfl hl (by decide) rfl (fun ls hl => ?_)
      refine lv_iinc (v := nI ((a + t) + 1)) (lv' := [(4, .int (nI ((a + t) + 1))), (3, .int (acc + (σ.1 12 (a + t)))), (0, .ref (α 10)), (2, .int b)]) hx hb dX2_dugFrom_21 hl (k := 3) rfl (nI_1 _) (by decide) rfl (fun ls hl => ?_)
      refine lv_goto (tgt := 5) hx hb dX2_dugFrom_24 (by decide) ?_
      exact ih (t + 1) (acc + (σ.1 12 (a + t))) (by omega) (by omega) (by rw [ha]; rfl) ls (lv_sub hl [2, 3, 1, 0] rfl)
set_option maxHeartbeats 4000000 in
set_option maxRecDepth 100000 in
theorem ctX2_dugFrom (l : Launch) (g : wG) (α : Nat → Nat) (N : Nat) (σ : wS) (a e2 : Nat) (b : Int32) (hN : 32 ≤ N) (hbe : b = nI e2 - 1) (hae : a ≤ e2) (he2 : e2 ≤ 200) : Met l yX2_dugFrom (wM yX2_dugFrom cX2_dugFrom 5 (some FieldType.int)) ({ frames := 0, cells := 0, slots := 0, locals := 0 } : Room) (wPc g α N σ [.ref (α 10), .int (nI a), .int b]) (vp_Si (fun r => r = smI (fun t => σ.1 12 (a + t)) (e2 - a))) 0 0 (fun _ => False) := by
  refine w_enterS (by decide) (Nat.le_of_ble_eq_true rfl) (fun p e s m args below meth c X I hr hlk ls hl => ?_)
  have hx := X.1.1
  have hb := X.1.2.1
  have hl : lv_has ls 5 [(0, .ref (α 10)), (1, .int (nI a)), (2, .int b)] := hl
  refine lv_iconst (v := 0) hx hb dX2_dugFrom_0 (by decide) ?_
  refine lv_istore_n (lv' := [(3, .int 0), (0, .ref (α 10)), (1, .int (nI a)), (2, .int b)]) hx hb dX2_dugFrom_1 rfl hl (by decide) rfl (fun ls hl => ?_)
  refine lv_iload_n hx hb dX2_dugFrom_2 rfl (lv_at hl 2 rfl) ?_
  refine lv_istore (lv' := [(4, .int (nI a)), (3, .int 0), (0, .ref (α 10)), (1, .int (nI a)), (2, .int b)]) hx hb dX2_dugFrom_3 hl (by decide) rfl (fun ls hl => ?_)
  exact lpX2_dugFrom_5 a e2 b X I hr hlk hN hbe hae he2  (e2 + 1) 0 0 (by omega) (by omega) rfl ls (lv_sub hl [2, 4, 1, 0] rfl)
end
section
variable {l : Launch} {g : wG} {α : Nat → Nat} {N : Nat} {σ : wS} {p : Program} {e : Env} {s : State} {m : MethodId} {args : Array Value} {below : List Frame} {meth : Method} {c : Code}
set_option maxHeartbeats 4000000 in
set_option maxRecDepth 100000 in
theorem lpX2_latestCome_4 (d : Nat) (X : wX p s m args c cX2_latestCome 3 RX2 g) (I : wI g α N (fun _ => True) s.heap s.heap [] σ) (hr : meth.sig.returnType = (some FieldType.int)) (hlk : meth.locks = false) (hN : 32 ≤ N) (hd200 : d ≤ 200) : ∀ (fu : Nat) (j : Nat), j + 1 ≤ fu → j ≤ d → lcO (σ.1 13) (nI d) d = lcO (σ.1 13) (nI d) j → ∀ ls : Array Slot, lv_has ls 3 [(0, .ref (α 10)), (1, .int (nI d)), (2, .int (nI j - 1))] → W p l e ({ frames := 0, cells := 0, slots := 0, locals := 0 } : Room) s m args below meth c s.heap [] 0 0 (MQ below (vp_Si (fun r => r = lcI (lcO (σ.1 13) (nI d) d))) args s 0 0 (fun _ => False)) (F0 m 4 ls []) := by
  have hx := X.1.1
  have hb := X.1.2.1
  intro fu
  induction fu with
  | zero =>
    intro j hfu hj ha
    exact absurd hfu (by omega)
  | succ fu ih =>
    intro j hfu hj ha ls hl
    refine lv_iload_n hx hb dX2_latestCome_4 rfl (lv_at hl 2 rfl) ?_
    refine lv_if_lt (tgt := 26) hx hb dX2_latestCome_5 (by decide) (fun c_5 => ?_) (fun c_5 => ?_)
    ·
      obtain rfl : j = 0 := (m1_neg (by omega)).mp c_5
      refine lv_bipush (v := (-9)) hx hb dX2_latestCome_26 (by decide) ?_
      exact w_iretS X hr hlk (by first | (rw [ha]; rfl) | (rw [ha, lcO, if_pos (Int32.not_lt.mp c_15)]; rfl)) dX2_latestCome_28
    ·
      obtain ⟨j', rfl⟩ : ∃ j', j = j' + 1 := ⟨j - 1, by have h0 : ¬ j = 0 := fun z => c_5 ((m1_neg (j := j) (by omega)).mpr z); omega⟩
      refine lv_aload_n hx hb dX2_latestCome_8 rfl (lv_at hl 0 rfl) ?_
      refine fg2_2 X I (by omega) kfX2_18 dX2_latestCome_9 ?_
      refine lv_iload_n hx hb dX2_latestCome_12 rfl (lv_at hl 2 rfl) ?_
      refine w_eqi (nI_pred _) ?_
      refine w_ld X I 13 (by omega) (n := 200) (k := j') (fun _ _ _ => rfl) rfl (by omega) (by decide) dX2_latestCome_13 ?_
      refine lv_iload_n hx hb dX2_latestCome_14 rfl (lv_at hl 1 rfl) ?_
      refine lv_icmp_gt (tgt := 20) hx hb dX2_latestCome_15 (by decide) (fun c_15 => ?_) (fun c_15 => ?_)
      ·
        refine lv_iinc (v := nI j' - 1) (lv' := [(2, .int (nI j' - 1)), (0, .ref (α 10)), (1, .int (nI d))]) hx hb dX2_latestCome_20 hl (k := 2) rfl (by rw [nI_pred]; exact m1e _) (by decide) rfl (fun ls hl => ?_)
        refine lv_goto (tgt := 4) hx hb dX2_latestCome_23 (by decide) ?_
        exact ih j' (by omega) (by omega) (by rw [ha, lcO, if_neg (Int32.not_le.mpr c_15)]) ls (lv_sub hl [1, 2, 0] rfl)
      ·
        refine lv_iload_n hx hb dX2_latestCome_18 rfl (lv_at hl 2 rfl) ?_
        refine w_eqi (nI_pred _) ?_
        exact w_iretS X hr hlk (by first | (rw [ha]; rfl) | (rw [ha, lcO, if_pos (Int32.not_lt.mp c_15)]; rfl)) dX2_latestCome_19
set_option maxHeartbeats 4000000 in
set_option maxRecDepth 100000 in
theorem ctX2_latestCome (l : Launch) (g : wG) (α : Nat → Nat) (N : Nat) (σ : wS) (d : Nat) (hN : 32 ≤ N) (hd200 : d ≤ 200) : Met l yX2_latestCome (wM yX2_latestCome cX2_latestCome 3 (some FieldType.int)) ({ frames := 0, cells := 0, slots := 0, locals := 0 } : Room) (wPc g α N σ [.ref (α 10), .int (nI d)]) (vp_Si (fun r => r = lcI (lcO (σ.1 13) (nI d) d))) 0 0 (fun _ => False) := by
  refine w_enterS (by decide) (Nat.le_of_ble_eq_true rfl) (fun p e s m args below meth c X I hr hlk ls hl => ?_)
  have hx := X.1.1
  have hb := X.1.2.1
  have hl : lv_has ls 3 [(0, .ref (α 10)), (1, .int (nI d))] := hl
  refine lv_iload_n hx hb dX2_latestCome_0 rfl (lv_at hl 1 rfl) ?_
  refine lv_iconst (v := 1) hx hb dX2_latestCome_1 (by decide) ?_
  refine lv_isub hx hb dX2_latestCome_2 ?_
  refine lv_istore_n (lv' := [(2, .int ((nI d) - 1)), (0, .ref (α 10)), (1, .int (nI d))]) hx hb dX2_latestCome_3 rfl hl (by decide) rfl (fun ls hl => ?_)
  exact lpX2_latestCome_4 d X I hr hlk hN hd200  (d + 1) d (by omega) (by omega) rfl ls (lv_sub hl [1, 2, 0] rfl)
end
section
variable {l : Launch} {g : wG} {α : Nat → Nat} {N : Nat} {σ : wS} {p : Program} {e : Env} {s : State} {m : MethodId} {args : Array Value} {below : List Frame} {meth : Method} {c : Code}
set_option maxHeartbeats 4000000 in
set_option maxRecDepth 100000 in
theorem ctX2_foretell (l : Launch) (g : wG) (α : Nat → Nat) (N : Nat) (σ : wS) (d : Nat) (hN : 32 ≤ N) (hd200 : d ≤ 200) : Met l yX2_foretell (wM yX2_foretell cX2_foretell 5 (some FieldType.int)) ({ frames := 1, cells := 0, slots := 0, locals := 30 } : Room) (wPc g α N σ [.ref (α 10), .int (nI d)]) (vp_Si (fun r => r = fgO (σ.1 11) (σ.1 12) (lcO (σ.1 13) (nI d) d))) 0 0 (fun _ => False) := by
  refine w_enterS (by decide) (Nat.le_of_ble_eq_true rfl) (fun p e s m args below meth c X I hr hlk ls hl => ?_)
  have hx := X.1.1
  have hb := X.1.2.1
  have hl : lv_has ls 5 [(0, .ref (α 10)), (1, .int (nI d))] := hl
  refine lv_aload_n hx hb dX2_foretell_0 rfl (lv_at hl 0 rfl) ?_
  refine lv_iload_n hx hb dX2_foretell_1 rfl (lv_at hl 1 rfl) ?_
  refine w_vSi X I 10 (by omega) rfl rfl (As := [.int (nI d)]) (rest := []) (ctX2_latestCome l g α N σ d hN hd200) (wM_V kmX2_21 ki_X2_latestCome ks_X2_latestCome kn_X2 kc_X2_latestCome) rfl rfl (n := 1) (by decide +kernel) rfl ⟨by decide, by decide⟩ hl.1 rfl (Nat.le_of_ble_eq_true rfl) ⟨Nat.zero_le _, Nat.zero_le _⟩ dX2_foretell_2 (fun r_2 q_2 => ?_)
  replace q_2 : r_2 = lcI (lcO (σ.1 13) (nI d) d) := q_2
  subst q_2
  rcases hlc : lcO (σ.1 13) (nI d) d with _ | j
  ·
    refine w_eqi (y := (-9)) rfl ?_
    refine lv_istore_n (lv' := [(2, .int (-9)), (0, .ref (α 10)), (1, .int (nI d))]) hx hb dX2_foretell_5 rfl hl (by decide) rfl (fun ls hl => ?_)
    refine lv_iload_n hx hb dX2_foretell_6 rfl (lv_at hl 0 rfl) ?_
    refine lv_bipush (v := (-9)) hx hb dX2_foretell_7 (by decide) ?_
    refine lv_icmp_ne (tgt := 15) hx hb dX2_foretell_9 (by decide) (fun cc => absurd cc (by decide)) (fun _ => ?_)
    refine lv_bipush (v := (-9)) hx hb dX2_foretell_12 (by decide) ?_
    exact w_iretS X hr hlk (by first | rfl | exact (if_pos c_36).symm | exact (if_neg c_36).symm) dX2_foretell_14
  ·
    have hj := lcO_lt hlc
    refine w_eqi (y := nI j) rfl ?_
    refine lv_istore_n (lv' := [(2, .int (nI j)), (0, .ref (α 10)), (1, .int (nI d))]) hx hb dX2_foretell_5 rfl hl (by decide) rfl (fun ls hl => ?_)
    refine lv_iload_n hx hb dX2_foretell_6 rfl (lv_at hl 0 rfl) ?_
    refine lv_bipush (v := (-9)) hx hb dX2_foretell_7 (by decide) ?_
    refine lv_icmp_ne (tgt := 15) hx hb dX2_foretell_9 (by decide) (fun _ => ?_) (fun cc => absurd cc (nI_neN (by omega) (by decide)))
    refine lv_iconst (v := 0) hx hb dX2_foretell_15 (by decide) ?_
    refine lv_iload_n hx hb dX2_foretell_16 rfl (lv_at hl 0 rfl) ?_
    refine lv_bipush (v := 7) hx hb dX2_foretell_17 (by decide) ?_
    refine lv_isub hx hb dX2_foretell_19 ?_
    refine lv_iconst (v := 1) hx hb dX2_foretell_20 (by decide) ?_
    refine lv_iadd hx hb dX2_foretell_21 ?_
    refine va_mmax hx hb (X.1.2.2.1.trans hl.1.symm) X.1.2.2.2.1 (X.1.2.2.2.2 _ kmX2_25) (X.1.2.2.2.2 _ kt_Math_max) (X.1.2.2.2.2 _ kn_Math) (X.1.2.2.2.2 _ kc_Math_max) (by decide) (Nat.le_of_ble_eq_true rfl) (Nat.zero_le _) (Nat.zero_le _) dX2_foretell_22 ?_
    refine w_eqi (max6 (by omega)) ?_
    refine lv_istore_n (lv' := [(3, .int (nI (j - 6))), (2, .int (nI j)), (0, .ref (α 10)), (1, .int (nI d))]) hx hb dX2_foretell_25 rfl hl (by decide) rfl (fun ls hl => ?_)
    refine lv_aload_n hx hb dX2_foretell_26 rfl (lv_at hl 2 rfl) ?_
    refine lv_iload_n hx hb dX2_foretell_27 rfl (lv_at hl 0 rfl) ?_
    refine lv_iload_n hx hb dX2_foretell_28 rfl (lv_at hl 1 rfl) ?_
    refine w_vSi X I 10 (by omega) rfl rfl (As := [.int (nI (j - 6)), .int (nI j)]) (rest := []) (ctX2_dugFrom l g α N σ (j - 6) (j + 1) (nI j) hN (nI_pred _).symm (by omega) (by omega)) (wM_V kmX2_31 ki_X2_dugFrom ks_X2_dugFrom kn_X2 kc_X2_dugFrom) rfl rfl (n := 2) (by decide +kernel) rfl ⟨by decide, by decide⟩ hl.1 rfl (Nat.le_of_ble_eq_true rfl) ⟨Nat.zero_le _, Nat.zero_le _⟩ dX2_foretell_29 (fun r_29 q_29 => ?_)
    replace q_29 : r_29 = smI (fun t => σ.1 12 (j - 6 + t)) (j + 1 - (j - 6)) := q_29
    subst q_29
    refine lv_istore (lv' := [(4, .int (smI (fun t => σ.1 12 (j - 6 + t)) (j + 1 - (j - 6)))), (3, .int (nI (j - 6))), (2, .int (nI j)), (0, .ref (α 10)), (1, .int (nI d))]) hx hb dX2_foretell_32 hl (by decide) rfl (fun ls hl => ?_)
    refine lv_iload hx hb dX2_foretell_34 (lv_at hl 0 rfl) ?_
    refine lv_if_ne (tgt := 42) hx hb dX2_foretell_36 (by decide) (fun c_36 => ?_) (fun c_36 => ?_)
    ·
      refine lv_aload_n hx hb dX2_foretell_42 rfl (lv_at hl 3 rfl) ?_
      refine fg2_0 X I (by omega) kfX2_9 dX2_foretell_43 ?_
      refine lv_iload_n hx hb dX2_foretell_46 rfl (lv_at hl 2 rfl) ?_
      refine w_ld X I 11 (by omega) (n := 200) (k := j) (fun _ _ _ => rfl) rfl (by omega) (by decide) dX2_foretell_47 ?_
      refine lv_iload_n hx hb dX2_foretell_48 rfl (lv_at hl 2 rfl) ?_
      refine lv_iload_n hx hb dX2_foretell_49 rfl (lv_at hl 1 rfl) ?_
      refine lv_isub hx hb dX2_foretell_50 ?_
      refine lv_iconst (v := 1) hx hb dX2_foretell_51 (by decide) ?_
      refine lv_iadd hx hb dX2_foretell_52 ?_
      refine w_eqi fgN ?_
      refine lv_imul hx hb dX2_foretell_53 ?_
      refine lv_iload hx hb dX2_foretell_54 (lv_at hl 0 rfl) ?_
      refine lv_iadd hx hb dX2_foretell_56 ?_
      refine lv_iconst (v := 1) hx hb dX2_foretell_57 (by decide) ?_
      refine lv_isub hx hb dX2_foretell_58 ?_
      refine lv_iload hx hb dX2_foretell_59 (lv_at hl 0 rfl) ?_
      refine lv_idiv hx hb dX2_foretell_61 c_36 ?_
      exact w_iretS X hr hlk (by first | rfl | exact (if_pos c_36).symm | exact (if_neg c_36).symm) dX2_foretell_62
    ·
      refine lv_bipush (v := (-9)) hx hb dX2_foretell_39 (by decide) ?_
      exact w_iretS X hr hlk (by first | rfl | exact (if_pos c_36).symm | exact (if_neg c_36).symm) dX2_foretell_41
end
section
variable {l : Launch} {g : wG} {α : Nat → Nat} {N : Nat} {σ : wS} {p : Program} {e : Env} {s : State} {m : MethodId} {args : Array Value} {below : List Frame} {meth : Method} {c : Code}
set_option maxHeartbeats 4000000 in
set_option maxRecDepth 100000 in
theorem ctX4_foretold (l : Launch) (g : wG) (α : Nat → Nat) (N : Nat) (σ : wS) (d : Nat) (hN : 32 ≤ N) (hd : σ.1 0 6 = nI d) (hd200 : d ≤ 200) : Met l yX4_foretold (wM yX4_foretold cX4_foretold 1 (some FieldType.int)) ({ frames := 2, cells := 0, slots := 0, locals := 54 } : Room) (wPc g α N σ [.ref (α 0)]) (vp_Si (fun r => r = fgO (σ.1 11) (σ.1 12) (lcO (σ.1 13) (nI d) d))) 0 0 (fun _ => False) := by
  refine w_enterS (by decide) (Nat.le_of_ble_eq_true rfl) (fun p e s m args below meth c X I hr hlk ls hl => ?_)
  have hx := X.1.1
  have hb := X.1.2.1
  have hl : lv_has ls 1 [(0, .ref (α 0))] := hl
  refine lv_aload_n hx hb dX4_foretold_0 rfl (lv_at hl 0 rfl) ?_
  refine fg4_5 X I (by omega) kfX4_39 dX4_foretold_1 ?_
  refine lv_aload_n hx hb dX4_foretold_4 rfl (lv_at hl 0 rfl) ?_
  refine fg4_6 X I (by omega) kfX4_43 dX4_foretold_5 ?_
  refine w_eqi hd ?_
  refine w_vSi X I 10 (by omega) rfl rfl (As := [.int (nI d)]) (rest := []) (ctX2_foretell l g α N σ d hN hd200) (wM_V kmX4_181 ki_X2_foretell ks_X2_foretell kn_X2 kc_X2_foretell) rfl rfl (n := 1) (by decide +kernel) rfl ⟨by decide, by decide⟩ hl.1 rfl (Nat.le_of_ble_eq_true rfl) ⟨Nat.zero_le _, Nat.zero_le _⟩ dX4_foretold_8 (fun r_8 q_8 => ?_)
  replace q_8 : r_8 = fgO (σ.1 11) (σ.1 12) (lcO (σ.1 13) (nI d) d) := q_8
  subst q_8
  exact w_iretS X hr hlk rfl dX4_foretold_11
end
section
variable {l : Launch} {g : wG} {α : Nat → Nat} {N : Nat} {σ : wS} {p : Program} {e : Env} {s : State} {m : MethodId} {args : Array Value} {below : List Frame} {meth : Method} {c : Code}
set_option maxHeartbeats 4000000 in
set_option maxRecDepth 100000 in
theorem ctX4_letter (l : Launch) (g : wG) (α : Nat → Nat) (N : Nat) (σ : wS) (a b : Int32) (d : Nat) (hN : 32 ≤ N) (hd : σ.1 0 6 = nI d) (hd200 : d ≤ 200) : Met l yX4_letter (wM yX4_letter cX4_letter 3 (some FieldType.int)) ({ frames := 1, cells := 0, slots := 0, locals := 22 } : Room) (wPc g α N σ [.ref (α 0), .int a, .int b]) (vp_Si (fun r => r = ltF (σ.1 11) (σ.1 12) (σ.1 13) d a b)) 0 0 (fun _ => False) := by
  refine w_enterS (by decide) (Nat.le_of_ble_eq_true rfl) (fun p e s m args below meth c X I hr hlk ls hl => ?_)
  have hx := X.1.1
  have hb := X.1.2.1
  have hl : lv_has ls 3 [(0, .ref (α 0)), (1, .int a), (2, .int b)] := hl
  refine lv_iload_n hx hb dX4_letter_0 rfl (lv_at hl 1 rfl) ?_
  refine lv_iconst (v := 0) hx hb dX4_letter_1 (by decide) ?_
  refine lv_sipush (v := 200) hx hb dX4_letter_2 (by decide) ?_
  refine w_sSi X I (As := [.int a, .int 0, .int 200]) (rest := []) (ctX4_within l g α N σ _ _ _ ) (wM_S kmX4_57 kt_X4_within kn_X4 kc_X4_within) rfl rfl (n := 3) (by decide +kernel) rfl ⟨by decide, by decide⟩ hl.1 rfl (Nat.le_of_ble_eq_true rfl) ⟨Nat.zero_le _, Nat.zero_le _⟩ dX4_letter_5 (fun r_5 q_5 => ?_)
  by_cases p_5 : ¬ a < 0 ∧ ¬ 200 < a
  ·
    obtain rfl : r_5 = 1 := Eq.trans q_5 (if_pos p_5)
    refine lv_if_eq (tgt := 20) hx hb dX4_letter_8 (by decide) (fun cc => absurd cc (by decide)) (fun _ => ?_)
    refine lv_iload_n hx hb dX4_letter_11 rfl (lv_at hl 2 rfl) ?_
    refine lv_iconst (v := 0) hx hb dX4_letter_12 (by decide) ?_
    refine lv_iconst (v := 2) hx hb dX4_letter_13 (by decide) ?_
    refine w_sSi X I (As := [.int b, .int 0, .int 2]) (rest := []) (ctX4_within l g α N σ _ _ _ ) (wM_S kmX4_57 kt_X4_within kn_X4 kc_X4_within) rfl rfl (n := 3) (by decide +kernel) rfl ⟨by decide, by decide⟩ hl.1 rfl (Nat.le_of_ble_eq_true rfl) ⟨Nat.zero_le _, Nat.zero_le _⟩ dX4_letter_14 (fun r_14 q_14 => ?_)
    by_cases p_14 : ¬ b < 0 ∧ ¬ 2 < b
    ·
      obtain rfl : r_14 = 1 := Eq.trans q_14 (if_pos p_14)
      refine lv_if_ne (tgt := 22) hx hb dX4_letter_17 (by decide) (fun _ => ?_) (fun cc => absurd cc (by decide))
      refine lv_iload_n hx hb dX4_letter_22 rfl (lv_at hl 1 rfl) ?_
      refine lv_aload_n hx hb dX4_letter_23 rfl (lv_at hl 0 rfl) ?_
      refine fg4_6 X I (by omega) kfX4_43 dX4_letter_24 ?_
      refine w_eqi hd ?_
      refine lv_icmp_ge (tgt := 46) hx hb dX4_letter_27 (by decide) (fun c_27 => ?_) (fun c_27 => ?_)
      ·
        refine lv_bipush (v := (-9)) hx hb dX4_letter_46 (by decide) ?_
        exact w_iretS X hr hlk (by first | (rw [ltF, if_neg p_5]; done) | (rw [ltF, if_pos p_5, if_neg p_14]; done) | (rw [ltF, if_pos p_5, if_pos p_14, spq_bad (Or.inr c_27)]; done) | (rw [ltF, if_pos p_5, if_pos p_14, spq_ok hk (by omega), if_neg (Int32.not_le.mpr (Int32.not_le.mp c_43))]; done) | (rw [ltF, if_pos p_5, if_pos p_14, spq_ok hk (by omega), if_pos c_43]; rfl)) dX4_letter_48
      ·
        obtain ⟨k, hk, rfl⟩ := bt_ok (n := d) (by omega) ⟨p_5.1, c_27⟩
        refine lv_aload_n hx hb dX4_letter_30 rfl (lv_at hl 0 rfl) ?_
        refine fg4_5 X I (by omega) kfX4_39 dX4_letter_31 ?_
        refine fg2_2 X I (by omega) kfX4_172 dX4_letter_34 ?_
        refine lv_iload_n hx hb dX4_letter_37 rfl (lv_at hl 1 rfl) ?_
        refine w_ld X I 13 (by omega) (n := 200) (k := k) (fun _ _ _ => rfl) rfl (by omega) (by decide) dX4_letter_38 ?_
        refine lv_aload_n hx hb dX4_letter_39 rfl (lv_at hl 0 rfl) ?_
        refine fg4_6 X I (by omega) kfX4_43 dX4_letter_40 ?_
        refine w_eqi hd ?_
        refine lv_icmp_le (tgt := 49) hx hb dX4_letter_43 (by decide) (fun c_43 => ?_) (fun c_43 => ?_)
        ·
          refine lv_iload_n hx hb dX4_letter_49 rfl (lv_at hl 2 rfl) ?_
          rcases sw3 p_14 with rfl | rfl | rfl
          ·
            refine lv_lookup (tgt := 76) (off := 26) hx hb dX4_letter_50 (by decide) (by decide) (by decide) ?_
            refine lv_aload_n hx hb dX4_letter_76 rfl (lv_at hl 0 rfl) ?_
            refine fg4_5 X I (by omega) kfX4_39 dX4_letter_77 ?_
            refine fg2_0 X I (by omega) kfX4_175 dX4_letter_80 ?_
            refine lv_iload_n hx hb dX4_letter_83 rfl (lv_at hl 1 rfl) ?_
            refine w_ld X I 11 (by omega) (n := 200) (k := k) (fun _ _ _ => rfl) rfl (by omega) (by decide) dX4_letter_84 ?_
            exact w_iretS X hr hlk (by first | (rw [ltF, if_neg p_5]; done) | (rw [ltF, if_pos p_5, if_neg p_14]; done) | (rw [ltF, if_pos p_5, if_pos p_14, spq_bad (Or.inr c_27)]; done) | (rw [ltF, if_pos p_5, if_pos p_14, spq_ok hk (by omega), if_neg (Int32.not_le.mpr (Int32.not_le.mp c_43))]; done) | (rw [ltF, if_pos p_5, if_pos p_14, spq_ok hk (by omega), if_pos c_43]; rfl)) dX4_letter_85
          ·
            refine lv_lookup (tgt := 86) (off := 36) hx hb dX4_letter_50 (by decide) (by decide) (by decide) ?_
            refine lv_aload_n hx hb dX4_letter_86 rfl (lv_at hl 0 rfl) ?_
            refine fg4_5 X I (by omega) kfX4_39 dX4_letter_87 ?_
            refine fg2_1 X I (by omega) kfX4_178 dX4_letter_90 ?_
            refine lv_iload_n hx hb dX4_letter_93 rfl (lv_at hl 1 rfl) ?_
            refine w_ld X I 12 (by omega) (n := 200) (k := k) (fun _ _ _ => rfl) rfl (by omega) (by decide) dX4_letter_94 ?_
            exact w_iretS X hr hlk (by first | (rw [ltF, if_neg p_5]; done) | (rw [ltF, if_pos p_5, if_neg p_14]; done) | (rw [ltF, if_pos p_5, if_pos p_14, spq_bad (Or.inr c_27)]; done) | (rw [ltF, if_pos p_5, if_pos p_14, spq_ok hk (by omega), if_neg (Int32.not_le.mpr (Int32.not_le.mp c_43))]; done) | (rw [ltF, if_pos p_5, if_pos p_14, spq_ok hk (by omega), if_pos c_43]; rfl)) dX4_letter_95
          ·
            refine lv_lookup (tgt := 96) (off := 46) hx hb dX4_letter_50 (by decide) (by decide) (by decide) ?_
            refine lv_aload_n hx hb dX4_letter_96 rfl (lv_at hl 0 rfl) ?_
            refine fg4_5 X I (by omega) kfX4_39 dX4_letter_97 ?_
            refine fg2_2 X I (by omega) kfX4_172 dX4_letter_100 ?_
            refine lv_iload_n hx hb dX4_letter_103 rfl (lv_at hl 1 rfl) ?_
            refine w_ld X I 13 (by omega) (n := 200) (k := k) (fun _ _ _ => rfl) rfl (by omega) (by decide) dX4_letter_104 ?_
            exact w_iretS X hr hlk (by first | (rw [ltF, if_neg p_5]; done) | (rw [ltF, if_pos p_5, if_neg p_14]; done) | (rw [ltF, if_pos p_5, if_pos p_14, spq_bad (Or.inr c_27)]; done) | (rw [ltF, if_pos p_5, if_pos p_14, spq_ok hk (by omega), if_neg (Int32.not_le.mpr (Int32.not_le.mp c_43))]; done) | (rw [ltF, if_pos p_5, if_pos p_14, spq_ok hk (by omega), if_pos c_43]; rfl)) dX4_letter_105
        ·
          refine lv_bipush (v := (-9)) hx hb dX4_letter_46 (by decide) ?_
          exact w_iretS X hr hlk (by first | (rw [ltF, if_neg p_5]; done) | (rw [ltF, if_pos p_5, if_neg p_14]; done) | (rw [ltF, if_pos p_5, if_pos p_14, spq_bad (Or.inr c_27)]; done) | (rw [ltF, if_pos p_5, if_pos p_14, spq_ok hk (by omega), if_neg (Int32.not_le.mpr (Int32.not_le.mp c_43))]; done) | (rw [ltF, if_pos p_5, if_pos p_14, spq_ok hk (by omega), if_pos c_43]; rfl)) dX4_letter_48
    ·
      obtain rfl : r_14 = 0 := Eq.trans q_14 (if_neg p_14)
      refine lv_if_ne (tgt := 22) hx hb dX4_letter_17 (by decide) (fun cc => absurd cc (by decide)) (fun _ => ?_)
      refine lv_iconst (v := (-1)) hx hb dX4_letter_20 (by decide) ?_
      exact w_iretS X hr hlk (by first | (rw [ltF, if_neg p_5]; done) | (rw [ltF, if_pos p_5, if_neg p_14]; done) | (rw [ltF, if_pos p_5, if_pos p_14, spq_bad (Or.inr c_27)]; done) | (rw [ltF, if_pos p_5, if_pos p_14, spq_ok hk (by omega), if_neg (Int32.not_le.mpr (Int32.not_le.mp c_43))]; done) | (rw [ltF, if_pos p_5, if_pos p_14, spq_ok hk (by omega), if_pos c_43]; rfl)) dX4_letter_21
  ·
    obtain rfl : r_5 = 0 := Eq.trans q_5 (if_neg p_5)
    refine lv_if_eq (tgt := 20) hx hb dX4_letter_8 (by decide) (fun _ => ?_) (fun cc => absurd cc (by decide))
    refine lv_iconst (v := (-1)) hx hb dX4_letter_20 (by decide) ?_
    exact w_iretS X hr hlk (by first | (rw [ltF, if_neg p_5]; done) | (rw [ltF, if_pos p_5, if_neg p_14]; done) | (rw [ltF, if_pos p_5, if_pos p_14, spq_bad (Or.inr c_27)]; done) | (rw [ltF, if_pos p_5, if_pos p_14, spq_ok hk (by omega), if_neg (Int32.not_le.mpr (Int32.not_le.mp c_43))]; done) | (rw [ltF, if_pos p_5, if_pos p_14, spq_ok hk (by omega), if_pos c_43]; rfl)) dX4_letter_21
end
section
variable {l : Launch} {g : wG} {α : Nat → Nat} {N : Nat} {σ : wS} {p : Program} {e : Env} {s : State} {m : MethodId} {args : Array Value} {below : List Frame} {meth : Method} {c : Code}
set_option maxHeartbeats 4000000 in
set_option maxRecDepth 100000 in
theorem lpX4_loadedShips_4 (n : Nat) (X : wX p s m args c cX4_loadedShips 3 RX4 g) (I : wI g α N (fun _ => True) s.heap s.heap [] σ) (hr : meth.sig.returnType = (some FieldType.int)) (hlk : meth.locks = false) (hn : σ.1 0 7 = nI n) (hn10 : n ≤ 10) (hN : 32 + 4 * n ≤ N) (hR : ∀ k, k < n → σ.2.2 5 k = some (32 + 4 * k)) : ∀ (fu : Nat) (k : Nat) (acc : Int32), n + 1 ≤ k + fu → k ≤ n → acc = smI (fun i => if ¬ σ.1 (32 + 4 * i) 9 = (-9) then 1 else 0) k → ∀ ls : Array Slot, lv_has ls 3 [(0, .ref (α 0)), (1, .int acc), (2, .int (nI k))] → W p l e ({ frames := 1, cells := 0, slots := 0, locals := 20 } : Room) s m args below meth c s.heap [] 0 0 (MQ below (vp_Si (fun r => r = smI (fun i => if ¬ σ.1 (32 + 4 * i) 9 = (-9) then 1 else 0) n)) args s 0 0 (fun _ => False)) (F0 m 4 ls []) := by
  have hx := X.1.1
  have hb := X.1.2.1
  intro fu
  induction fu with
  | zero =>
    intro k acc hfu hk ha
    exact absurd hfu (by omega)
  | succ fu ih =>
    intro k acc hfu hk ha ls hl
    refine lv_iload_n hx hb dX4_loadedShips_4 rfl (lv_at hl 2 rfl) ?_
    refine lv_aload_n hx hb dX4_loadedShips_5 rfl (lv_at hl 0 rfl) ?_
    refine fg4_7 X I (by omega) kfX4_47 dX4_loadedShips_6 ?_
    refine w_eqi hn ?_
    refine lv_icmp_ge (tgt := 33) hx hb dX4_loadedShips_9 (by decide) (fun c_9 => ?_) (fun c_9 => ?_)
    ·
      have e : k = n := by have := nI_le' c_9 (by omega) (by omega); omega
      refine lv_iload_n hx hb dX4_loadedShips_33 rfl (lv_at hl 1 rfl) ?_
      exact w_iretS X hr hlk (by rw [ha, e]) dX4_loadedShips_34
    ·
      have hlt : k < n := by
        rcases Nat.lt_or_ge k n with q | q
        · exact q
        · exact absurd (nI_le q (by omega)) c_9
      refine lv_aload_n hx hb dX4_loadedShips_12 rfl (lv_at hl 0 rfl) ?_
      refine fg4_2 X I (by omega) kfX4_22 dX4_loadedShips_13 ?_
      refine lv_iload_n hx hb dX4_loadedShips_16 rfl (lv_at hl 2 rfl) ?_
      refine w_ldq X I 5 (by omega) (n := 10) (k := k) (fun _ _ _ => rfl) rfl (by omega) (by decide) (hR k hlt) dX4_loadedShips_17 ?_
      refine w_vSi X I (32 + 4 * k) (by omega) (wc_ship g α k _ _ _) rfl (As := []) (rest := []) (ctX3_isLoaded l g α N σ k (by omega)) (wM_V kmX4_119 ki_X3_isLoaded ks_X3_isLoaded kn_X3 kc_X3_isLoaded) rfl rfl (n := 0) (by decide +kernel) rfl ⟨by decide, by decide⟩ hl.1 rfl (Nat.le_of_ble_eq_true rfl) ⟨Nat.zero_le _, Nat.zero_le _⟩ dX4_loadedShips_18 (fun r_18 q_18 => ?_)
      by_cases p_18 : ¬ σ.1 (32 + 4 * k) 9 = (-9)
      ·
        obtain rfl : r_18 = 1 := Eq.trans q_18 (if_pos p_18)
        refine lv_if_eq (tgt := 27) hx hb dX4_loadedShips_21 (by decide) (fun cc => absurd cc (by decide)) (fun _ => ?_)
        refine lv_iinc (v := acc + 1) (lv' := [(1, .int (acc + 1)), (0, .ref (α 0)), (2, .int (nI k))]) hx hb dX4_loadedShips_24 hl (k := 1) rfl rfl (by decide) rfl (fun ls hl => ?_)
        refine lv_iinc (v := nI (k + 1)) (lv' := [(2, .int (nI (k + 1))), (1, .int (acc + 1)), (0, .ref (α 0))]) hx hb dX4_loadedShips_27 hl (k := 2) rfl (nI_1 _) (by decide) rfl (fun ls hl => ?_)
        refine lv_goto (tgt := 4) hx hb dX4_loadedShips_30 (by decide) ?_
        exact ih (k + 1) (acc + 1) (by omega) (by omega) (by rw [ha, smI]; first | rw [if_pos p_18] | (rw [if_neg p_18]; simp)) ls (lv_sub hl [2, 1, 0] rfl)
      ·
        obtain rfl : r_18 = 0 := Eq.trans q_18 (if_neg p_18)
        refine lv_if_eq (tgt := 27) hx hb dX4_loadedShips_21 (by decide) (fun _ => ?_) (fun cc => absurd cc (by decide))
        refine lv_iinc (v := nI (k + 1)) (lv' := [(2, .int (nI (k + 1))), (0, .ref (α 0)), (1, .int acc)]) hx hb dX4_loadedShips_27 hl (k := 2) rfl (nI_1 _) (by decide) rfl (fun ls hl => ?_)
        refine lv_goto (tgt := 4) hx hb dX4_loadedShips_30 (by decide) ?_
        exact ih (k + 1) acc (by omega) (by omega) (by rw [ha, smI]; first | rw [if_pos p_18] | (rw [if_neg p_18]; simp)) ls (lv_sub hl [1, 2, 0] rfl)
set_option maxHeartbeats 4000000 in
set_option maxRecDepth 100000 in
theorem ctX4_loadedShips (l : Launch) (g : wG) (α : Nat → Nat) (N : Nat) (σ : wS) (n : Nat) (hn : σ.1 0 7 = nI n) (hn10 : n ≤ 10) (hN : 32 + 4 * n ≤ N) (hR : ∀ k, k < n → σ.2.2 5 k = some (32 + 4 * k)) : Met l yX4_loadedShips (wM yX4_loadedShips cX4_loadedShips 3 (some FieldType.int)) ({ frames := 1, cells := 0, slots := 0, locals := 20 } : Room) (wPc g α N σ [.ref (α 0)]) (vp_Si (fun r => r = smI (fun i => if ¬ σ.1 (32 + 4 * i) 9 = (-9) then 1 else 0) n)) 0 0 (fun _ => False) := by
  refine w_enterS (by decide) (Nat.le_of_ble_eq_true rfl) (fun p e s m args below meth c X I hr hlk ls hl => ?_)
  have hx := X.1.1
  have hb := X.1.2.1
  have hl : lv_has ls 3 [(0, .ref (α 0))] := hl
  refine lv_iconst (v := 0) hx hb dX4_loadedShips_0 (by decide) ?_
  refine lv_istore_n (lv' := [(1, .int 0), (0, .ref (α 0))]) hx hb dX4_loadedShips_1 rfl hl (by decide) rfl (fun ls hl => ?_)
  refine lv_iconst (v := 0) hx hb dX4_loadedShips_2 (by decide) ?_
  refine lv_istore_n (lv' := [(2, .int 0), (1, .int 0), (0, .ref (α 0))]) hx hb dX4_loadedShips_3 rfl hl (by decide) rfl (fun ls hl => ?_)
  exact lpX4_loadedShips_4 n X I hr hlk hn hn10 hN hR  (n + 1) 0 0 (by omega) (by omega) rfl ls (lv_sub hl [2, 1, 0] rfl)
end
section
variable {l : Launch} {g : wG} {α : Nat → Nat} {N : Nat} {σ : wS} {p : Program} {e : Env} {s : State} {m : MethodId} {args : Array Value} {below : List Frame} {meth : Method} {c : Code}
set_option maxHeartbeats 4000000 in
set_option maxRecDepth 100000 in
theorem lpX4_dryShips_4 (n : Nat) (X : wX p s m args c cX4_dryShips 3 RX4 g) (I : wI g α N (fun _ => True) s.heap s.heap [] σ) (hr : meth.sig.returnType = (some FieldType.int)) (hlk : meth.locks = false) (hn : σ.1 0 7 = nI n) (hn10 : n ≤ 10) (hN : 32 + 4 * n ≤ N) (hR : ∀ k, k < n → σ.2.2 5 k = some (32 + 4 * k)) : ∀ (fu : Nat) (k : Nat) (acc : Int32), n + 1 ≤ k + fu → k ≤ n → acc = smI (fun i => if σ.1 (32 + 4 * i) 9 = (-9) ∧ σ.1 (32 + 4 * i) 8 = 0 then 1 else 0) k → ∀ ls : Array Slot, lv_has ls 3 [(0, .ref (α 0)), (1, .int acc), (2, .int (nI k))] → W p l e ({ frames := 2, cells := 0, slots := 0, locals := 40 } : Room) s m args below meth c s.heap [] 0 0 (MQ below (vp_Si (fun r => r = smI (fun i => if σ.1 (32 + 4 * i) 9 = (-9) ∧ σ.1 (32 + 4 * i) 8 = 0 then 1 else 0) n)) args s 0 0 (fun _ => False)) (F0 m 4 ls []) := by
  have hx := X.1.1
  have hb := X.1.2.1
  intro fu
  induction fu with
  | zero =>
    intro k acc hfu hk ha
    exact absurd hfu (by omega)
  | succ fu ih =>
    intro k acc hfu hk ha ls hl
    refine lv_iload_n hx hb dX4_dryShips_4 rfl (lv_at hl 2 rfl) ?_
    refine lv_aload_n hx hb dX4_dryShips_5 rfl (lv_at hl 0 rfl) ?_
    refine fg4_7 X I (by omega) kfX4_47 dX4_dryShips_6 ?_
    refine w_eqi hn ?_
    refine lv_icmp_ge (tgt := 33) hx hb dX4_dryShips_9 (by decide) (fun c_9 => ?_) (fun c_9 => ?_)
    ·
      have e : k = n := by have := nI_le' c_9 (by omega) (by omega); omega
      refine lv_iload_n hx hb dX4_dryShips_33 rfl (lv_at hl 1 rfl) ?_
      exact w_iretS X hr hlk (by rw [ha, e]) dX4_dryShips_34
    ·
      have hlt : k < n := by
        rcases Nat.lt_or_ge k n with q | q
        · exact q
        · exact absurd (nI_le q (by omega)) c_9
      refine lv_aload_n hx hb dX4_dryShips_12 rfl (lv_at hl 0 rfl) ?_
      refine fg4_2 X I (by omega) kfX4_22 dX4_dryShips_13 ?_
      refine lv_iload_n hx hb dX4_dryShips_16 rfl (lv_at hl 2 rfl) ?_
      refine w_ldq X I 5 (by omega) (n := 10) (k := k) (fun _ _ _ => rfl) rfl (by omega) (by decide) (hR k hlt) dX4_dryShips_17 ?_
      refine w_vSi X I (32 + 4 * k) (by omega) (wc_ship g α k _ _ _) rfl (As := []) (rest := []) (ctX3_isDry l g α N σ k (by omega)) (wM_V kmX4_210 ki_X3_isDry ks_X3_isDry kn_X3 kc_X3_isDry) rfl rfl (n := 0) (by decide +kernel) rfl ⟨by decide, by decide⟩ hl.1 rfl (Nat.le_of_ble_eq_true rfl) ⟨Nat.zero_le _, Nat.zero_le _⟩ dX4_dryShips_18 (fun r_18 q_18 => ?_)
      by_cases p_18 : σ.1 (32 + 4 * k) 9 = (-9) ∧ σ.1 (32 + 4 * k) 8 = 0
      ·
        obtain rfl : r_18 = 1 := Eq.trans q_18 (if_pos p_18)
        refine lv_if_eq (tgt := 27) hx hb dX4_dryShips_21 (by decide) (fun cc => absurd cc (by decide)) (fun _ => ?_)
        refine lv_iinc (v := acc + 1) (lv' := [(1, .int (acc + 1)), (0, .ref (α 0)), (2, .int (nI k))]) hx hb dX4_dryShips_24 hl (k := 1) rfl rfl (by decide) rfl (fun ls hl => ?_)
        refine lv_iinc (v := nI (k + 1)) (lv' := [(2, .int (nI (k + 1))), (1, .int (acc + 1)), (0, .ref (α 0))]) hx hb dX4_dryShips_27 hl (k := 2) rfl (nI_1 _) (by decide) rfl (fun ls hl => ?_)
        refine lv_goto (tgt := 4) hx hb dX4_dryShips_30 (by decide) ?_
        exact ih (k + 1) (acc + 1) (by omega) (by omega) (by rw [ha, smI]; first | rw [if_pos p_18] | (rw [if_neg p_18]; simp)) ls (lv_sub hl [2, 1, 0] rfl)
      ·
        obtain rfl : r_18 = 0 := Eq.trans q_18 (if_neg p_18)
        refine lv_if_eq (tgt := 27) hx hb dX4_dryShips_21 (by decide) (fun _ => ?_) (fun cc => absurd cc (by decide))
        refine lv_iinc (v := nI (k + 1)) (lv' := [(2, .int (nI (k + 1))), (0, .ref (α 0)), (1, .int acc)]) hx hb dX4_dryShips_27 hl (k := 2) rfl (nI_1 _) (by decide) rfl (fun ls hl => ?_)
        refine lv_goto (tgt := 4) hx hb dX4_dryShips_30 (by decide) ?_
        exact ih (k + 1) acc (by omega) (by omega) (by rw [ha, smI]; first | rw [if_pos p_18] | (rw [if_neg p_18]; simp)) ls (lv_sub hl [1, 2, 0] rfl)
set_option maxHeartbeats 4000000 in
set_option maxRecDepth 100000 in
theorem ctX4_dryShips (l : Launch) (g : wG) (α : Nat → Nat) (N : Nat) (σ : wS) (n : Nat) (hn : σ.1 0 7 = nI n) (hn10 : n ≤ 10) (hN : 32 + 4 * n ≤ N) (hR : ∀ k, k < n → σ.2.2 5 k = some (32 + 4 * k)) : Met l yX4_dryShips (wM yX4_dryShips cX4_dryShips 3 (some FieldType.int)) ({ frames := 2, cells := 0, slots := 0, locals := 40 } : Room) (wPc g α N σ [.ref (α 0)]) (vp_Si (fun r => r = smI (fun i => if σ.1 (32 + 4 * i) 9 = (-9) ∧ σ.1 (32 + 4 * i) 8 = 0 then 1 else 0) n)) 0 0 (fun _ => False) := by
  refine w_enterS (by decide) (Nat.le_of_ble_eq_true rfl) (fun p e s m args below meth c X I hr hlk ls hl => ?_)
  have hx := X.1.1
  have hb := X.1.2.1
  have hl : lv_has ls 3 [(0, .ref (α 0))] := hl
  refine lv_iconst (v := 0) hx hb dX4_dryShips_0 (by decide) ?_
  refine lv_istore_n (lv' := [(1, .int 0), (0, .ref (α 0))]) hx hb dX4_dryShips_1 rfl hl (by decide) rfl (fun ls hl => ?_)
  refine lv_iconst (v := 0) hx hb dX4_dryShips_2 (by decide) ?_
  refine lv_istore_n (lv' := [(2, .int 0), (1, .int 0), (0, .ref (α 0))]) hx hb dX4_dryShips_3 rfl hl (by decide) rfl (fun ls hl => ?_)
  exact lpX4_dryShips_4 n X I hr hlk hn hn10 hN hR  (n + 1) 0 0 (by omega) (by omega) rfl ls (lv_sub hl [2, 1, 0] rfl)
end
section
variable {l : Launch} {g : wG} {α : Nat → Nat} {N : Nat} {σ : wS} {p : Program} {e : Env} {s : State} {m : MethodId} {args : Array Value} {below : List Frame} {meth : Method} {c : Code}
set_option maxHeartbeats 4000000 in
set_option maxRecDepth 100000 in
theorem lpX4_tonsWanted_4 (n : Nat) (X : wX p s m args c cX4_tonsWanted 3 RX4 g) (I : wI g α N (fun _ => True) s.heap s.heap [] σ) (hr : meth.sig.returnType = (some FieldType.int)) (hlk : meth.locks = false) (hn : σ.1 0 7 = nI n) (hn10 : n ≤ 10) (hN : 32 + 4 * n ≤ N) (hR : ∀ k, k < n → σ.2.2 5 k = some (32 + 4 * k)) : ∀ (fu : Nat) (k : Nat) (acc : Int32), n + 1 ≤ k + fu → k ≤ n → acc = smI (fun i => σ.1 (32 + 4 * i) 6) k → ∀ ls : Array Slot, lv_has ls 3 [(0, .ref (α 0)), (1, .int acc), (2, .int (nI k))] → W p l e ({ frames := 0, cells := 0, slots := 0, locals := 0 } : Room) s m args below meth c s.heap [] 0 0 (MQ below (vp_Si (fun r => r = smI (fun i => σ.1 (32 + 4 * i) 6) n)) args s 0 0 (fun _ => False)) (F0 m 4 ls []) := by
  have hx := X.1.1
  have hb := X.1.2.1
  intro fu
  induction fu with
  | zero =>
    intro k acc hfu hk ha
    exact absurd hfu (by omega)
  | succ fu ih =>
    intro k acc hfu hk ha ls hl
    refine lv_iload_n hx hb dX4_tonsWanted_4 rfl (lv_at hl 2 rfl) ?_
    refine lv_aload_n hx hb dX4_tonsWanted_5 rfl (lv_at hl 0 rfl) ?_
    refine fg4_7 X I (by omega) kfX4_47 dX4_tonsWanted_6 ?_
    refine w_eqi hn ?_
    refine lv_icmp_ge (tgt := 30) hx hb dX4_tonsWanted_9 (by decide) (fun c_9 => ?_) (fun c_9 => ?_)
    ·
      have e : k = n := by have := nI_le' c_9 (by omega) (by omega); omega
      refine lv_iload_n hx hb dX4_tonsWanted_30 rfl (lv_at hl 1 rfl) ?_
      exact w_iretS X hr hlk (by rw [ha, e]) dX4_tonsWanted_31
    ·
      have hlt : k < n := by
        rcases Nat.lt_or_ge k n with q | q
        · exact q
        · exact absurd (nI_le q (by omega)) c_9
      refine lv_iload_n hx hb dX4_tonsWanted_12 rfl (lv_at hl 1 rfl) ?_
      refine lv_aload_n hx hb dX4_tonsWanted_13 rfl (lv_at hl 0 rfl) ?_
      refine fg4_2 X I (by omega) kfX4_22 dX4_tonsWanted_14 ?_
      refine lv_iload_n hx hb dX4_tonsWanted_17 rfl (lv_at hl 2 rfl) ?_
      refine w_ldq X I 5 (by omega) (n := 10) (k := k) (fun _ _ _ => rfl) rfl (by omega) (by decide) (hR k hlt) dX4_tonsWanted_18 ?_
      refine fg3_6 X I k (by omega) kfX4_98 dX4_tonsWanted_19 ?_
      refine lv_iadd hx hb dX4_tonsWanted_22 ?_
      refine lv_istore_n (lv' := [(1, .int (acc + (σ.1 (32 + 4 * k) 6))), (0, .ref (α 0)), (2, .int (nI k))]) hx hb dX4_tonsWanted_23 rfl hl (by decide) rfl (fun ls hl => ?_)
      refine lv_iinc (v := nI (k + 1)) (lv' := [(2, .int (nI (k + 1))), (1, .int (acc + (σ.1 (32 + 4 * k) 6))), (0, .ref (α 0))]) hx hb dX4_tonsWanted_24 hl (k := 2) rfl (nI_1 _) (by decide) rfl (fun ls hl => ?_)
      refine lv_goto (tgt := 4) hx hb dX4_tonsWanted_27 (by decide) ?_
      exact ih (k + 1) (acc + (σ.1 (32 + 4 * k) 6)) (by omega) (by omega) (by rw [ha]; rfl) ls (lv_sub hl [2, 1, 0] rfl)
set_option maxHeartbeats 4000000 in
set_option maxRecDepth 100000 in
theorem ctX4_tonsWanted (l : Launch) (g : wG) (α : Nat → Nat) (N : Nat) (σ : wS) (n : Nat) (hn : σ.1 0 7 = nI n) (hn10 : n ≤ 10) (hN : 32 + 4 * n ≤ N) (hR : ∀ k, k < n → σ.2.2 5 k = some (32 + 4 * k)) : Met l yX4_tonsWanted (wM yX4_tonsWanted cX4_tonsWanted 3 (some FieldType.int)) ({ frames := 0, cells := 0, slots := 0, locals := 0 } : Room) (wPc g α N σ [.ref (α 0)]) (vp_Si (fun r => r = smI (fun i => σ.1 (32 + 4 * i) 6) n)) 0 0 (fun _ => False) := by
  refine w_enterS (by decide) (Nat.le_of_ble_eq_true rfl) (fun p e s m args below meth c X I hr hlk ls hl => ?_)
  have hx := X.1.1
  have hb := X.1.2.1
  have hl : lv_has ls 3 [(0, .ref (α 0))] := hl
  refine lv_iconst (v := 0) hx hb dX4_tonsWanted_0 (by decide) ?_
  refine lv_istore_n (lv' := [(1, .int 0), (0, .ref (α 0))]) hx hb dX4_tonsWanted_1 rfl hl (by decide) rfl (fun ls hl => ?_)
  refine lv_iconst (v := 0) hx hb dX4_tonsWanted_2 (by decide) ?_
  refine lv_istore_n (lv' := [(2, .int 0), (1, .int 0), (0, .ref (α 0))]) hx hb dX4_tonsWanted_3 rfl hl (by decide) rfl (fun ls hl => ?_)
  exact lpX4_tonsWanted_4 n X I hr hlk hn hn10 hN hR  (n + 1) 0 0 (by omega) (by omega) rfl ls (lv_sub hl [2, 1, 0] rfl)
end
section
variable {l : Launch} {g : wG} {α : Nat → Nat} {N : Nat} {σ : wS} {p : Program} {e : Env} {s : State} {m : MethodId} {args : Array Value} {below : List Frame} {meth : Method} {c : Code}
set_option maxHeartbeats 4000000 in
set_option maxRecDepth 100000 in
theorem ctX4_count (l : Launch) (g : wG) (α : Nat → Nat) (N : Nat) (σ : wS) (a : Int32) (n d ly dr : Nat) (hn : σ.1 0 7 = nI n) (hn10 : n ≤ 10) (hN : 32 + 4 * n ≤ N) (hd : σ.1 0 6 = nI d) (hd200 : d ≤ 200) (hz : σ.1 2 2 = nI ly) (hly : ly ≤ 6) (hdr : σ.1 7 2 = nI dr) (hdr30 : dr ≤ 30) (hR : ∀ k, k < n → σ.2.2 5 k = some (32 + 4 * k)) : Met l yX4_count (wM yX4_count cX4_count 2 (some FieldType.int)) ({ frames := 3, cells := 0, slots := 0, locals := 62 } : Room) (wPc g α N σ [.ref (α 0), .int a]) (vp_Si (fun r => r = abF (nI d) (nI n) (nI ly) (smI (fun i => if ¬ σ.1 (32 + 4 * i) 9 = (-9) then 1 else 0) n) (smI (fun t => σ.1 12 (0 + t)) (d - 0)) (nI dr) (smI (fun i => if σ.1 (32 + 4 * i) 9 = (-9) ∧ σ.1 (32 + 4 * i) 8 = 0 then 1 else 0) n) a)) 0 0 (fun _ => False) := by
  refine w_enterS (by decide) (Nat.le_of_ble_eq_true rfl) (fun p e s m args below meth c X I hr hlk ls hl => ?_)
  have hx := X.1.1
  have hb := X.1.2.1
  have hl : lv_has ls 2 [(0, .ref (α 0)), (1, .int a)] := hl
  refine lv_iload_n hx hb dX4_count_0 rfl (lv_at hl 1 rfl) ?_
  rcases sw7 a with rfl | rfl | rfl | rfl | rfl | rfl | rfl | hsw
  ·
    refine lv_tableIn (tgt := 44) (off := 43) hx hb dX4_count_1 (by decide) (by decide) rfl (by decide) ?_
    refine lv_aload_n hx hb dX4_count_44 rfl (lv_at hl 0 rfl) ?_
    refine fg4_6 X I (by omega) kfX4_43 dX4_count_45 ?_
    refine w_eqi hd ?_
    exact w_iretS X hr hlk (by first | (simp [abF]; done) | (simp [abF, hsw]; done)) dX4_count_48
  ·
    refine lv_tableIn (tgt := 49) (off := 48) hx hb dX4_count_1 (by decide) (by decide) rfl (by decide) ?_
    refine lv_aload_n hx hb dX4_count_49 rfl (lv_at hl 0 rfl) ?_
    refine fg4_7 X I (by omega) kfX4_47 dX4_count_50 ?_
    refine w_eqi hn ?_
    exact w_iretS X hr hlk (by first | (simp [abF]; done) | (simp [abF, hsw]; done)) dX4_count_53
  ·
    refine lv_tableIn (tgt := 54) (off := 53) hx hb dX4_count_1 (by decide) (by decide) rfl (by decide) ?_
    refine lv_aload_n hx hb dX4_count_54 rfl (lv_at hl 0 rfl) ?_
    refine fg4_1 X I (by omega) kfX4_16 dX4_count_55 ?_
    refine fg1_2 X I (by omega) kfX4_61 dX4_count_58 ?_
    refine w_eqi hz ?_
    exact w_iretS X hr hlk (by first | (simp [abF]; done) | (simp [abF, hsw]; done)) dX4_count_61
  ·
    refine lv_tableIn (tgt := 62) (off := 61) hx hb dX4_count_1 (by decide) (by decide) rfl (by decide) ?_
    refine lv_aload_n hx hb dX4_count_62 rfl (lv_at hl 0 rfl) ?_
    refine w_vSi X I 0 (by omega) rfl rfl (As := []) (rest := []) (ctX4_loadedShips l g α N σ n hn hn10 hN hR) (wM_V kmX4_184 ki_X4_loadedShips ks_X4_loadedShips kn_X4 kc_X4_loadedShips) rfl rfl (n := 0) (by decide +kernel) rfl ⟨by decide, by decide⟩ hl.1 rfl (Nat.le_of_ble_eq_true rfl) ⟨Nat.zero_le _, Nat.zero_le _⟩ dX4_count_63 (fun r_63 q_63 => ?_)
    replace q_63 : r_63 = smI (fun i => if ¬ σ.1 (32 + 4 * i) 9 = (-9) then 1 else 0) n := q_63
    subst q_63
    exact w_iretS X hr hlk (by first | (simp [abF]; done) | (simp [abF, hsw]; done)) dX4_count_66
  ·
    refine lv_tableIn (tgt := 67) (off := 66) hx hb dX4_count_1 (by decide) (by decide) rfl (by decide) ?_
    refine lv_aload_n hx hb dX4_count_67 rfl (lv_at hl 0 rfl) ?_
    refine fg4_5 X I (by omega) kfX4_39 dX4_count_68 ?_
    refine lv_iconst (v := 0) hx hb dX4_count_71 (by decide) ?_
    refine lv_aload_n hx hb dX4_count_72 rfl (lv_at hl 0 rfl) ?_
    refine fg4_6 X I (by omega) kfX4_43 dX4_count_73 ?_
    refine w_eqi hd ?_
    refine lv_iconst (v := 1) hx hb dX4_count_76 (by decide) ?_
    refine lv_isub hx hb dX4_count_77 ?_
    refine w_vSi X I 10 (by omega) rfl rfl (As := [.int 0, .int ((nI d) - 1)]) (rest := []) (ctX2_dugFrom l g α N σ 0 d _ (by omega) rfl (Nat.zero_le _) hd200) (wM_V kmX4_187 ki_X2_dugFrom ks_X2_dugFrom kn_X2 kc_X2_dugFrom) rfl rfl (n := 2) (by decide +kernel) rfl ⟨by decide, by decide⟩ hl.1 rfl (Nat.le_of_ble_eq_true rfl) ⟨Nat.zero_le _, Nat.zero_le _⟩ dX4_count_78 (fun r_78 q_78 => ?_)
    replace q_78 : r_78 = smI (fun t => σ.1 12 (0 + t)) (d - 0) := q_78
    subst q_78
    exact w_iretS X hr hlk (by first | (simp [abF]; done) | (simp [abF, hsw]; done)) dX4_count_81
  ·
    refine lv_tableIn (tgt := 82) (off := 81) hx hb dX4_count_1 (by decide) (by decide) rfl (by decide) ?_
    refine lv_aload_n hx hb dX4_count_82 rfl (lv_at hl 0 rfl) ?_
    refine fg4_4 X I (by omega) kfX4_32 dX4_count_83 ?_
    refine fg0_2 X I (by omega) kfX4_132 dX4_count_86 ?_
    refine w_eqi hdr ?_
    exact w_iretS X hr hlk (by first | (simp [abF]; done) | (simp [abF, hsw]; done)) dX4_count_89
  ·
    refine lv_tableIn (tgt := 90) (off := 89) hx hb dX4_count_1 (by decide) (by decide) rfl (by decide) ?_
    refine lv_aload_n hx hb dX4_count_90 rfl (lv_at hl 0 rfl) ?_
    refine w_vSi X I 0 (by omega) rfl rfl (As := []) (rest := []) (ctX4_dryShips l g α N σ n hn hn10 hN hR) (wM_V kmX4_190 ki_X4_dryShips ks_X4_dryShips kn_X4 kc_X4_dryShips) rfl rfl (n := 0) (by decide +kernel) rfl ⟨by decide, by decide⟩ hl.1 rfl (Nat.le_of_ble_eq_true rfl) ⟨Nat.zero_le _, Nat.zero_le _⟩ dX4_count_91 (fun r_91 q_91 => ?_)
    replace q_91 : r_91 = smI (fun i => if σ.1 (32 + 4 * i) 9 = (-9) ∧ σ.1 (32 + 4 * i) 8 = 0 then 1 else 0) n := q_91
    subst q_91
    exact w_iretS X hr hlk (by first | (simp [abF]; done) | (simp [abF, hsw]; done)) dX4_count_94
  ·
    refine lv_tableOut (tgt := 95) hx hb dX4_count_1 hsw.1 (by decide) ?_
    refine lv_iconst (v := (-1)) hx hb dX4_count_95 (by decide) ?_
    exact w_iretS X hr hlk (by first | (simp [abF]; done) | (simp [abF, hsw]; done)) dX4_count_96
end
section
variable {l : Launch} {g : wG} {α : Nat → Nat} {N : Nat} {σ : wS} {p : Program} {e : Env} {s : State} {m : MethodId} {args : Array Value} {below : List Frame} {meth : Method} {c : Code}
set_option maxHeartbeats 4000000 in
set_option maxRecDepth 100000 in
theorem ctX4_trace (l : Launch) (g : wG) (α : Nat → Nat) (N : Nat) (σ : wS)  (hN : 32 ≤ N) : Met l yX4_trace (wM yX4_trace cX4_trace 1 (some FieldType.long)) ({ frames := 0, cells := 0, slots := 0, locals := 0 } : Room) (wPc g α N σ [.ref (α 0)]) (vp_Sl (fun r => r = σ.2.1 0)) 0 0 (fun _ => False) := by
  refine w_enterS (by decide) (Nat.le_of_ble_eq_true rfl) (fun p e s m args below meth c X I hr hlk ls hl => ?_)
  have hx := X.1.1
  have hb := X.1.2.1
  have hl : lv_has ls 1 [(0, .ref (α 0))] := hl
  refine lv_aload_n hx hb dX4_trace_0 rfl (lv_at hl 0 rfl) ?_
  refine fg4_9 X I (by omega) kfX4_53 dX4_trace_1 ?_
  exact w_lretS X hr hlk rfl dX4_trace_4
end
section
variable {l : Launch} {g : wG} {α : Nat → Nat} {N : Nat} {σ : wS} {p : Program} {e : Env} {s : State} {m : MethodId} {args : Array Value} {below : List Frame} {meth : Method} {c : Code}
set_option maxHeartbeats 4000000 in
set_option maxRecDepth 100000 in
theorem ctX1_lay (l : Launch) (g : wG) (α : Nat → Nat) (N : Nat) (σ : wS) (sz : Nat) (t w : Int32) (ly : Nat) (hN : 32 ≤ N) (hz : σ.1 2 2 = nI ly) (hly : ly < 6) : Met l yX1_lay (wM yX1_lay cX1_lay 3 (some FieldType.int)) ({ frames := 0, cells := 0, slots := 0, locals := 0 } : Room) (wPs g α N sz σ [.ref (α 2), .int t, .int w]) (va_Qi (fun r τ => r = nI ly ∧ τ = laS σ ly t w) (wB g α N) (wA α N sz)) 0 0 (wA α N sz) := by
  refine w_enter (by decide) (Nat.le_of_ble_eq_true rfl) (fun p e s m args below meth c hsz X I hr hlk ls hl => ?_)
  have hA : ∀ q, s.heap.size ≤ q → wA α N sz q := fun q h => Or.inr (by omega)
  have hx := X.1.1
  have hb := X.1.2.1
  have hl : lv_has ls 3 [(0, .ref (α 2)), (1, .int t), (2, .int w)] := hl
  refine lv_aload_n hx hb dX1_lay_0 rfl (lv_at hl 0 rfl) ?_
  refine fg1_0 X I (by omega) kfX1_9 dX1_lay_1 ?_
  refine lv_aload_n hx hb dX1_lay_4 rfl (lv_at hl 0 rfl) ?_
  refine fg1_2 X I (by omega) kfX1_18 dX1_lay_5 ?_
  refine w_eqi hz ?_
  refine lv_iload_n hx hb dX1_lay_8 rfl (lv_at hl 1 rfl) ?_
  refine w_st X I 3 (by omega) (n := 6) (k := ly) (fun _ _ _ => rfl) rfl (by omega) (by decide) dX1_lay_9 (fun H locs I => ?_)
  refine lv_aload_n hx hb dX1_lay_10 rfl (lv_at hl 0 rfl) ?_
  refine fg1_1 X I (by omega) kfX1_15 dX1_lay_11 ?_
  refine lv_aload_n hx hb dX1_lay_14 rfl (lv_at hl 0 rfl) ?_
  refine fg1_2 X I (by omega) kfX1_18 dX1_lay_15 ?_
  refine w_eqi (wu_o (by decide)) ?_
  refine w_eqi hz ?_
  refine lv_iload_n hx hb dX1_lay_18 rfl (lv_at hl 2 rfl) ?_
  refine w_st X I 4 (by omega) (n := 6) (k := ly) (fun _ _ _ => rfl) rfl (by omega) (by decide) dX1_lay_19 (fun H locs I => ?_)
  refine lv_aload_n hx hb dX1_lay_20 rfl (lv_at hl 0 rfl) ?_
  refine lv_dup hx hb dX1_lay_21 rfl ?_
  refine fg1_2 X I (by omega) kfX1_18 dX1_lay_22 ?_
  refine w_eqi ((wu_o (by decide)).trans (wu_o (by decide))) ?_
  refine w_eqi hz ?_
  refine lv_iconst (v := 1) hx hb dX1_lay_25 (by decide) ?_
  refine lv_iadd hx hb dX1_lay_26 ?_
  refine w_eqi (nI_1 _) ?_
  refine fp1_2 X I (by omega) kfX1_18 dX1_lay_27 (fun H locs I => ?_)
  refine lv_aload_n hx hb dX1_lay_30 rfl (lv_at hl 0 rfl) ?_
  refine fg1_2 X I (by omega) kfX1_18 dX1_lay_31 ?_
  refine w_eqi wu_s ?_
  refine lv_iconst (v := 1) hx hb dX1_lay_34 (by decide) ?_
  refine lv_isub hx hb dX1_lay_35 ?_
  refine w_eqi (nI_pred _) ?_
  exact w_iret X I hr hlk (⟨rfl, rfl⟩) dX1_lay_36
end
section
variable {l : Launch} {g : wG} {α : Nat → Nat} {N : Nat} {σ : wS} {p : Program} {e : Env} {s : State} {m : MethodId} {args : Array Value} {below : List Frame} {meth : Method} {c : Code}
set_option maxHeartbeats 4000000 in
set_option maxRecDepth 100000 in
theorem ctX4_layer (l : Launch) (g : wG) (α : Nat → Nat) (N : Nat) (σ : wS) (sz : Nat) (t w : Int32) (ly : Nat) (hN : 32 ≤ N) (hz : σ.1 2 2 = nI ly) (hly6 : ly ≤ 6) : Met l yX4_layer (wM yX4_layer cX4_layer 3 (some FieldType.int)) ({ frames := 1, cells := 0, slots := 0, locals := 22 } : Room) (wPs g α N sz σ [.ref (α 0), .int t, .int w]) (va_Qi (fun r τ => (r, τ) = laF σ ly t w) (wB g α N) (wA α N sz)) 0 0 (wA α N sz) := by
  refine w_enter (by decide) (Nat.le_of_ble_eq_true rfl) (fun p e s m args below meth c hsz X I hr hlk ls hl => ?_)
  have hA : ∀ q, s.heap.size ≤ q → wA α N sz q := fun q h => Or.inr (by omega)
  have hx := X.1.1
  have hb := X.1.2.1
  have hl : lv_has ls 3 [(0, .ref (α 0)), (1, .int t), (2, .int w)] := hl
  refine lv_iload_n hx hb dX4_layer_0 rfl (lv_at hl 1 rfl) ?_
  refine lv_iconst (v := 1) hx hb dX4_layer_1 (by decide) ?_
  refine lv_sipush (v := 5000) hx hb dX4_layer_2 (by decide) ?_
  refine w_sSi X I (As := [.int t, .int 1, .int 5000]) (rest := []) (ctX4_within l g α N σ _ _ _ ) (wM_S kmX4_57 kt_X4_within kn_X4 kc_X4_within) rfl rfl (n := 3) (by decide +kernel) rfl ⟨by decide, by decide⟩ hl.1 rfl (Nat.le_of_ble_eq_true rfl) ⟨Nat.zero_le _, Nat.zero_le _⟩ dX4_layer_5 (fun r_5 q_5 => ?_)
  by_cases p_5 : ¬ t < 1 ∧ ¬ 5000 < t
  ·
    obtain rfl : r_5 = 1 := Eq.trans q_5 (if_pos p_5)
    refine lv_if_eq (tgt := 21) hx hb dX4_layer_8 (by decide) (fun cc => absurd cc (by decide)) (fun _ => ?_)
    refine lv_iload_n hx hb dX4_layer_11 rfl (lv_at hl 2 rfl) ?_
    refine lv_iconst (v := 1) hx hb dX4_layer_12 (by decide) ?_
    refine lv_bipush (v := 100) hx hb dX4_layer_13 (by decide) ?_
    refine w_sSi X I (As := [.int w, .int 1, .int 100]) (rest := []) (ctX4_within l g α N σ _ _ _ ) (wM_S kmX4_57 kt_X4_within kn_X4 kc_X4_within) rfl rfl (n := 3) (by decide +kernel) rfl ⟨by decide, by decide⟩ hl.1 rfl (Nat.le_of_ble_eq_true rfl) ⟨Nat.zero_le _, Nat.zero_le _⟩ dX4_layer_15 (fun r_15 q_15 => ?_)
    by_cases p_15 : ¬ w < 1 ∧ ¬ 100 < w
    ·
      obtain rfl : r_15 = 1 := Eq.trans q_15 (if_pos p_15)
      refine lv_if_ne (tgt := 23) hx hb dX4_layer_18 (by decide) (fun _ => ?_) (fun cc => absurd cc (by decide))
      refine lv_aload_n hx hb dX4_layer_23 rfl (lv_at hl 0 rfl) ?_
      refine fg4_1 X I (by omega) kfX4_16 dX4_layer_24 ?_
      refine fg1_2 X I (by omega) kfX4_61 dX4_layer_27 ?_
      refine w_eqi hz ?_
      refine lv_bipush (v := 6) hx hb dX4_layer_30 (by decide) ?_
      refine lv_icmp_lt (tgt := 38) hx hb dX4_layer_32 (by decide) (fun c_32 => ?_) (fun c_32 => ?_)
      ·
        have hly : ly < 6 := nI_lt' (b := 6) c_32 (by omega) (by decide)
        refine lv_aload_n hx hb dX4_layer_38 rfl (lv_at hl 0 rfl) ?_
        refine fg4_1 X I (by omega) kfX4_16 dX4_layer_39 ?_
        refine lv_iload_n hx hb dX4_layer_42 rfl (lv_at hl 1 rfl) ?_
        refine lv_iload_n hx hb dX4_layer_43 rfl (lv_at hl 2 rfl) ?_
        refine w_vi X I hA 2 (by omega) rfl rfl (As := [.int t, .int w]) (rest := []) (ctX1_lay l g α N σ _ t w ly hN hz hly) (wM_V kmX4_64 ki_X1_lay ks_X1_lay kn_X1 kc_X1_lay) rfl rfl (n := 2) (by decide +kernel) rfl ⟨by decide, by decide⟩ hl.1 rfl (Nat.le_of_ble_eq_true rfl) ⟨Nat.zero_le _, Nat.zero_le _⟩ dX4_layer_44 (fun r_44 τ_44 H locs q_44 I => ?_)
        obtain ⟨rfl, rfl⟩ := q_44
        exact w_iret X I hr hlk (by first | (simp only [laF, p_5, p_15, c_32, not_false_eq_true, not_true_eq_false, and_self, and_true, true_and, and_false, false_and, ite_true, ite_false, if_true, if_false, ↓reduceIte]; done) | (simp [laF, p_5, p_15, c_32]; done)) dX4_layer_47
      ·
        refine lv_bipush (v := (-3)) hx hb dX4_layer_35 (by decide) ?_
        exact w_iret X I hr hlk (by first | (simp only [laF, p_5, p_15, c_32, not_false_eq_true, not_true_eq_false, and_self, and_true, true_and, and_false, false_and, ite_true, ite_false, if_true, if_false, ↓reduceIte]; done) | (simp [laF, p_5, p_15, c_32]; done)) dX4_layer_37
    ·
      obtain rfl : r_15 = 0 := Eq.trans q_15 (if_neg p_15)
      refine lv_if_ne (tgt := 23) hx hb dX4_layer_18 (by decide) (fun cc => absurd cc (by decide)) (fun _ => ?_)
      refine lv_iconst (v := (-1)) hx hb dX4_layer_21 (by decide) ?_
      exact w_iret X I hr hlk (by first | (simp only [laF, p_5, p_15, not_false_eq_true, not_true_eq_false, and_self, and_true, true_and, and_false, false_and, ite_true, ite_false, if_true, if_false, ↓reduceIte]; done) | (simp [laF, p_5, p_15]; done)) dX4_layer_22
  ·
    obtain rfl : r_5 = 0 := Eq.trans q_5 (if_neg p_5)
    refine lv_if_eq (tgt := 21) hx hb dX4_layer_8 (by decide) (fun _ => ?_) (fun cc => absurd cc (by decide))
    refine lv_iconst (v := (-1)) hx hb dX4_layer_21 (by decide) ?_
    exact w_iret X I hr hlk (by first | (simp only [laF, p_5, not_false_eq_true, not_true_eq_false, and_self, and_true, true_and, and_false, false_and, ite_true, ite_false, if_true, if_false, ↓reduceIte]; done) | (simp [laF, p_5]; done)) dX4_layer_22
end
section
variable {l : Launch} {g : wG} {α : Nat → Nat} {N : Nat} {σ : wS} {p : Program} {e : Env} {s : State} {m : MethodId} {args : Array Value} {below : List Frame} {meth : Method} {c : Code}
set_option maxHeartbeats 4000000 in
set_option maxRecDepth 100000 in
theorem ctX4_swell (l : Launch) (g : wG) (α : Nat → Nat) (N : Nat) (σ : wS) (sz : Nat) (a b : Int32) (d : Nat) (hN : 32 ≤ N) (hd : σ.1 0 6 = nI d) (hd200 : d ≤ 200) : Met l yX4_swell (wM yX4_swell cX4_swell 4 (some FieldType.int)) ({ frames := 1, cells := 0, slots := 0, locals := 22 } : Room) (wPs g α N sz σ [.ref (α 0), .int a, .int b]) (va_Qi (fun r τ => (r, τ) = swF σ d a b) (wB g α N) (wA α N sz)) 0 0 (wA α N sz) := by
  refine w_enter (by decide) (Nat.le_of_ble_eq_true rfl) (fun p e s m args below meth c hsz X I hr hlk ls hl => ?_)
  have hA : ∀ q, s.heap.size ≤ q → wA α N sz q := fun q h => Or.inr (by omega)
  have hx := X.1.1
  have hb := X.1.2.1
  have hl : lv_has ls 4 [(0, .ref (α 0)), (1, .int a), (2, .int b)] := hl
  refine lv_iload_n hx hb dX4_swell_0 rfl (lv_at hl 1 rfl) ?_
  refine lv_aload_n hx hb dX4_swell_1 rfl (lv_at hl 0 rfl) ?_
  refine fg4_6 X I (by omega) kfX4_43 dX4_swell_2 ?_
  refine w_eqi hd ?_
  refine lv_sipush (v := 200) hx hb dX4_swell_5 (by decide) ?_
  refine w_sSi X I (As := [.int a, .int (nI d), .int 200]) (rest := []) (ctX4_within l g α N σ _ _ _ ) (wM_S kmX4_57 kt_X4_within kn_X4 kc_X4_within) rfl rfl (n := 3) (by decide +kernel) rfl ⟨by decide, by decide⟩ hl.1 rfl (Nat.le_of_ble_eq_true rfl) ⟨Nat.zero_le _, Nat.zero_le _⟩ dX4_swell_8 (fun r_8 q_8 => ?_)
  by_cases p_8 : ¬ a < (nI d) ∧ ¬ 200 < a
  ·
    obtain rfl : r_8 = 1 := Eq.trans q_8 (if_pos p_8)
    refine lv_if_eq (tgt := 24) hx hb dX4_swell_11 (by decide) (fun cc => absurd cc (by decide)) (fun _ => ?_)
    refine lv_iload_n hx hb dX4_swell_14 rfl (lv_at hl 2 rfl) ?_
    refine lv_iconst (v := 0) hx hb dX4_swell_15 (by decide) ?_
    refine lv_bipush (v := 9) hx hb dX4_swell_16 (by decide) ?_
    refine w_sSi X I (As := [.int b, .int 0, .int 9]) (rest := []) (ctX4_within l g α N σ _ _ _ ) (wM_S kmX4_57 kt_X4_within kn_X4 kc_X4_within) rfl rfl (n := 3) (by decide +kernel) rfl ⟨by decide, by decide⟩ hl.1 rfl (Nat.le_of_ble_eq_true rfl) ⟨Nat.zero_le _, Nat.zero_le _⟩ dX4_swell_18 (fun r_18 q_18 => ?_)
    by_cases p_18 : ¬ b < 0 ∧ ¬ 9 < b
    ·
      obtain rfl : r_18 = 1 := Eq.trans q_18 (if_pos p_18)
      obtain ⟨k, hk1, hk2, rfl⟩ := sw_k hd200 p_8
      refine lv_if_ne (tgt := 26) hx hb dX4_swell_21 (by decide) (fun _ => ?_) (fun cc => absurd cc (by decide))
      refine lv_aload_n hx hb dX4_swell_26 rfl (lv_at hl 0 rfl) ?_
      refine fg4_0 X I (by omega) kfX4_9 dX4_swell_27 ?_
      refine lv_iload_n hx hb dX4_swell_30 rfl (lv_at hl 1 rfl) ?_
      refine w_ld X I 1 (by omega) (n := 201) (k := k) (fun _ _ _ => rfl) rfl (by omega) (by decide) dX4_swell_31 ?_
      refine lv_istore_n (lv' := [(3, .int (σ.1 1 k)), (0, .ref (α 0)), (1, .int (nI k)), (2, .int b)]) hx hb dX4_swell_32 rfl hl (by decide) rfl (fun ls hl => ?_)
      refine lv_aload_n hx hb dX4_swell_33 rfl (lv_at hl 1 rfl) ?_
      refine fg4_0 X I (by omega) kfX4_9 dX4_swell_34 ?_
      refine lv_iload_n hx hb dX4_swell_37 rfl (lv_at hl 2 rfl) ?_
      refine lv_iload_n hx hb dX4_swell_38 rfl (lv_at hl 3 rfl) ?_
      refine w_st X I 1 (by omega) (n := 201) (k := k) (fun _ _ _ => rfl) rfl (by omega) (by decide) dX4_swell_39 (fun H locs I => ?_)
      refine lv_iload_n hx hb dX4_swell_40 rfl (lv_at hl 0 rfl) ?_
      exact w_iret X I hr hlk (by first | (rw [swF, if_neg p_8]; done) | (rw [swF, if_pos p_8, if_neg p_18]; done) | (rw [swF, if_pos p_8, if_pos p_18, nI_clamp (by omega)])) dX4_swell_41
    ·
      obtain rfl : r_18 = 0 := Eq.trans q_18 (if_neg p_18)
      refine lv_if_ne (tgt := 26) hx hb dX4_swell_21 (by decide) (fun cc => absurd cc (by decide)) (fun _ => ?_)
      refine lv_iconst (v := (-1)) hx hb dX4_swell_24 (by decide) ?_
      exact w_iret X I hr hlk (by first | (rw [swF, if_neg p_8]; done) | (rw [swF, if_pos p_8, if_neg p_18]; done) | (rw [swF, if_pos p_8, if_pos p_18, nI_clamp (by omega)])) dX4_swell_25
  ·
    obtain rfl : r_8 = 0 := Eq.trans q_8 (if_neg p_8)
    refine lv_if_eq (tgt := 24) hx hb dX4_swell_11 (by decide) (fun _ => ?_) (fun cc => absurd cc (by decide))
    refine lv_iconst (v := (-1)) hx hb dX4_swell_24 (by decide) ?_
    exact w_iret X I hr hlk (by first | (rw [swF, if_neg p_8]; done) | (rw [swF, if_pos p_8, if_neg p_18]; done) | (rw [swF, if_pos p_8, if_pos p_18, nI_clamp (by omega)])) dX4_swell_25
end
section
variable {l : Launch} {g : wG} {α : Nat → Nat} {N : Nat} {σ : wS} {p : Program} {e : Env} {s : State} {m : MethodId} {args : Array Value} {below : List Frame} {meth : Method} {c : Code}
set_option maxHeartbeats 4000000 in
set_option maxRecDepth 100000 in
theorem ctX4_delay (l : Launch) (g : wG) (α : Nat → Nat) (N : Nat) (σ : wS) (sz : Nat) (a : Int32) (hN : 32 ≤ N) : Met l yX4_delay (wM yX4_delay cX4_delay 3 (some FieldType.int)) ({ frames := 1, cells := 0, slots := 0, locals := 22 } : Room) (wPs g α N sz σ [.ref (α 0), .int a]) (va_Qi (fun r τ => (r, τ) = if ¬ a < 0 ∧ ¬ 60 < a then (σ.1 0 8, wu σ 0 8 a) else ((-1), σ)) (wB g α N) (wA α N sz)) 0 0 (wA α N sz) := by
  refine w_enter (by decide) (Nat.le_of_ble_eq_true rfl) (fun p e s m args below meth c hsz X I hr hlk ls hl => ?_)
  have hA : ∀ q, s.heap.size ≤ q → wA α N sz q := fun q h => Or.inr (by omega)
  have hx := X.1.1
  have hb := X.1.2.1
  have hl : lv_has ls 3 [(0, .ref (α 0)), (1, .int a)] := hl
  refine lv_iload_n hx hb dX4_delay_0 rfl (lv_at hl 1 rfl) ?_
  refine lv_iconst (v := 0) hx hb dX4_delay_1 (by decide) ?_
  refine lv_bipush (v := 60) hx hb dX4_delay_2 (by decide) ?_
  refine w_sSi X I (As := [.int a, .int 0, .int 60]) (rest := []) (ctX4_within l g α N σ _ _ _ ) (wM_S kmX4_57 kt_X4_within kn_X4 kc_X4_within) rfl rfl (n := 3) (by decide +kernel) rfl ⟨by decide, by decide⟩ hl.1 rfl (Nat.le_of_ble_eq_true rfl) ⟨Nat.zero_le _, Nat.zero_le _⟩ dX4_delay_4 (fun r_4 q_4 => ?_)
  by_cases p_4 : ¬ a < 0 ∧ ¬ 60 < a
  ·
    obtain rfl : r_4 = 1 := Eq.trans q_4 (if_pos p_4)
    refine lv_if_ne (tgt := 12) hx hb dX4_delay_7 (by decide) (fun _ => ?_) (fun cc => absurd cc (by decide))
    refine lv_aload_n hx hb dX4_delay_12 rfl (lv_at hl 0 rfl) ?_
    refine fg4_8 X I (by omega) kfX4_50 dX4_delay_13 ?_
    refine lv_istore_n (lv' := [(2, .int (σ.1 0 8)), (0, .ref (α 0)), (1, .int a)]) hx hb dX4_delay_16 rfl hl (by decide) rfl (fun ls hl => ?_)
    refine lv_aload_n hx hb dX4_delay_17 rfl (lv_at hl 1 rfl) ?_
    refine lv_iload_n hx hb dX4_delay_18 rfl (lv_at hl 2 rfl) ?_
    refine fp4_8 X I (by omega) kfX4_50 dX4_delay_19 (fun H locs I => ?_)
    refine lv_iload_n hx hb dX4_delay_22 rfl (lv_at hl 0 rfl) ?_
    exact w_iret X I hr hlk (by first | exact (if_pos p_4).symm | exact (if_neg p_4).symm) dX4_delay_23
  ·
    obtain rfl : r_4 = 0 := Eq.trans q_4 (if_neg p_4)
    refine lv_if_ne (tgt := 12) hx hb dX4_delay_7 (by decide) (fun cc => absurd cc (by decide)) (fun _ => ?_)
    refine lv_iconst (v := (-1)) hx hb dX4_delay_10 (by decide) ?_
    exact w_iret X I hr hlk (by first | exact (if_pos p_4).symm | exact (if_neg p_4).symm) dX4_delay_11
end
section
variable {l : Launch} {g : wG} {α : Nat → Nat} {N : Nat} {σ : wS} {p : Program} {e : Env} {s : State} {m : MethodId} {args : Array Value} {below : List Frame} {meth : Method} {c : Code}
set_option maxHeartbeats 4000000 in
set_option maxRecDepth 100000 in
theorem ctX4_boat (l : Launch) (g : wG) (α : Nat → Nat) (N : Nat) (σ : wS) (sz : Nat) (a b : Int32) (n : Nat) (hn : σ.1 0 7 = nI n) (hn10 : n ≤ 10) (hN : 32 + 4 * n ≤ N) (hR : ∀ k, k < n → σ.2.2 5 k = some (32 + 4 * k)) : Met l yX4_boat (wM yX4_boat cX4_boat 4 (some FieldType.int)) ({ frames := 1, cells := 0, slots := 0, locals := 30 } : Room) (wPs g α N sz σ [.ref (α 0), .int a, .int b]) (va_Qi (fun r τ => (r, τ) = spQ n a ((-1), σ) (fun k => boF σ k b)) (wB g α N) (wA α N sz)) 0 0 (wA α N sz) := by
  refine w_enter (by decide) (Nat.le_of_ble_eq_true rfl) (fun p e s m args below meth c hsz X I hr hlk ls hl => ?_)
  have hA : ∀ q, s.heap.size ≤ q → wA α N sz q := fun q h => Or.inr (by omega)
  have hx := X.1.1
  have hb := X.1.2.1
  have hl : lv_has ls 4 [(0, .ref (α 0)), (1, .int a), (2, .int b)] := hl
  refine lv_aload_n hx hb dX4_boat_0 rfl (lv_at hl 0 rfl) ?_
  refine lv_iload_n hx hb dX4_boat_1 rfl (lv_at hl 1 rfl) ?_
  refine w_vSq X I 0 (by omega) rfl rfl (As := [.int a]) (rest := []) (ctX4_shipNumbered l g α N σ a n hn hn10 hN hR) (wM_V kmX4_78 ki_X4_shipNumbered ks_X4_shipNumbered kn_X4 kc_X4_shipNumbered) rfl rfl (n := 1) (by decide +kernel) rfl ⟨by decide, by decide⟩ hl.1 rfl (Nat.le_of_ble_eq_true rfl) ⟨Nat.zero_le _, Nat.zero_le _⟩ dX4_boat_2 (fun r_2 q_2 => ?_)
  replace q_2 : (∀ k, k < n → a = nI k → r_2 = some (α (32 + 4 * k))) ∧ ((a < 0 ∨ nI n ≤ a) → r_2 = none) := q_2
  rcases ix2 a (n := n) (by omega) with hbad | ⟨k, hk, rfl⟩
  ·
    obtain rfl : r_2 = none := q_2.2 hbad
    refine w_eqv (y := .null) rfl ?_
    refine lv_astore_nN (lv' := [(3, .null), (0, .ref (α 0)), (1, .int a), (2, .int b)]) hx hb dX4_boat_5 rfl hl (by decide) rfl (fun ls hl => ?_)
    refine lv_aload_nN hx hb dX4_boat_6 rfl (lv_at hl 0 rfl) ?_
    refine lv_ifnullN (tgt := 20) hx hb dX4_boat_7 (by decide) ?_
    refine lv_iconst (v := (-1)) hx hb dX4_boat_20 (by decide) ?_
    exact w_iret X I hr hlk (by first | exact (spQ_bad hbad).symm | (rw [spQ_ok hk (by omega), boF, if_neg p_14]; done) | (rw [spQ_ok hk (by omega), boF, if_pos p_14, if_pos p_23]; done) | (rw [spQ_ok hk (by omega), boF, if_pos p_14, if_neg p_23]; done)) dX4_boat_21
  ·
    obtain rfl : r_2 = some (α (32 + 4 * k)) := q_2.1 k hk rfl
    clear q_2
    refine w_eqv (y := .ref (α (32 + 4 * k))) rfl ?_
    refine lv_astore_n (lv' := [(3, .ref (α (32 + 4 * k))), (0, .ref (α 0)), (1, .int (nI k)), (2, .int b)]) hx hb dX4_boat_5 rfl hl (by decide) rfl (fun ls hl => ?_)
    refine lv_aload_n hx hb dX4_boat_6 rfl (lv_at hl 0 rfl) ?_
    refine lv_ifnull hx hb dX4_boat_7 ?_
    refine lv_iload_n hx hb dX4_boat_10 rfl (lv_at hl 3 rfl) ?_
    refine lv_iconst (v := 1) hx hb dX4_boat_11 (by decide) ?_
    refine lv_bipush (v := 90) hx hb dX4_boat_12 (by decide) ?_
    refine w_sSi X I (As := [.int b, .int 1, .int 90]) (rest := []) (ctX4_within l g α N σ _ _ _ ) (wM_S kmX4_57 kt_X4_within kn_X4 kc_X4_within) rfl rfl (n := 3) (by decide +kernel) rfl ⟨by decide, by decide⟩ hl.1 rfl (Nat.le_of_ble_eq_true rfl) ⟨Nat.zero_le _, Nat.zero_le _⟩ dX4_boat_14 (fun r_14 q_14 => ?_)
    by_cases p_14 : ¬ b < 1 ∧ ¬ 90 < b
    ·
      obtain rfl : r_14 = 1 := Eq.trans q_14 (if_pos p_14)
      refine lv_if_ne (tgt := 22) hx hb dX4_boat_17 (by decide) (fun _ => ?_) (fun cc => absurd cc (by decide))
      refine lv_aload_n hx hb dX4_boat_22 rfl (lv_at hl 0 rfl) ?_
      refine w_vSi X I (32 + 4 * k) (by omega) (wc_ship g α k _ _ _) rfl (As := []) (rest := []) (ctX3_isLoaded l g α N σ k (by omega)) (wM_V kmX4_119 ki_X3_isLoaded ks_X3_isLoaded kn_X3 kc_X3_isLoaded) rfl rfl (n := 0) (by decide +kernel) rfl ⟨by decide, by decide⟩ hl.1 rfl (Nat.le_of_ble_eq_true rfl) ⟨Nat.zero_le _, Nat.zero_le _⟩ dX4_boat_23 (fun r_23 q_23 => ?_)
      by_cases p_23 : ¬ σ.1 (32 + 4 * k) 9 = (-9)
      ·
        obtain rfl : r_23 = 1 := Eq.trans q_23 (if_pos p_23)
        refine lv_if_eq (tgt := 32) hx hb dX4_boat_26 (by decide) (fun cc => absurd cc (by decide)) (fun _ => ?_)
        refine lv_bipush (v := (-2)) hx hb dX4_boat_29 (by decide) ?_
        exact w_iret X I hr hlk (by first | exact (spQ_bad hbad).symm | (rw [spQ_ok hk (by omega), boF, if_neg p_14]; done) | (rw [spQ_ok hk (by omega), boF, if_pos p_14, if_pos p_23]; done) | (rw [spQ_ok hk (by omega), boF, if_pos p_14, if_neg p_23]; done)) dX4_boat_31
      ·
        obtain rfl : r_23 = 0 := Eq.trans q_23 (if_neg p_23)
        refine lv_if_eq (tgt := 32) hx hb dX4_boat_26 (by decide) (fun _ => ?_) (fun cc => absurd cc (by decide))
        refine lv_aload_n hx hb dX4_boat_32 rfl (lv_at hl 0 rfl) ?_
        refine lv_bipush (v := 90) hx hb dX4_boat_33 (by decide) ?_
        refine lv_aload_n hx hb dX4_boat_35 rfl (lv_at hl 0 rfl) ?_
        refine fg3_8 X I k (by omega) kfX4_103 dX4_boat_36 ?_
        refine lv_iload_n hx hb dX4_boat_39 rfl (lv_at hl 3 rfl) ?_
        refine lv_iadd hx hb dX4_boat_40 ?_
        refine va_mmin hx hb (X.1.2.2.1.trans hl.1.symm) X.1.2.2.2.1 (X.1.2.2.2.2 _ kmX4_123) (X.1.2.2.2.2 _ kt_Math_min) (X.1.2.2.2.2 _ kn_Math) (X.1.2.2.2.2 _ kc_Math_min) (by decide) (Nat.le_of_ble_eq_true rfl) (Nat.zero_le _) (Nat.zero_le _) dX4_boat_41 ?_
        refine fp3_8 X I k (by omega) kfX4_103 dX4_boat_44 (fun H locs I => ?_)
        refine lv_aload_n hx hb dX4_boat_47 rfl (lv_at hl 0 rfl) ?_
        refine fg3_8 X I k (by omega) kfX4_103 dX4_boat_48 ?_
        refine w_eqi wu_s ?_
        exact w_iret X I hr hlk (by first | exact (spQ_bad hbad).symm | (rw [spQ_ok hk (by omega), boF, if_neg p_14]; done) | (rw [spQ_ok hk (by omega), boF, if_pos p_14, if_pos p_23]; done) | (rw [spQ_ok hk (by omega), boF, if_pos p_14, if_neg p_23]; done)) dX4_boat_51
    ·
      obtain rfl : r_14 = 0 := Eq.trans q_14 (if_neg p_14)
      refine lv_if_ne (tgt := 22) hx hb dX4_boat_17 (by decide) (fun cc => absurd cc (by decide)) (fun _ => ?_)
      refine lv_iconst (v := (-1)) hx hb dX4_boat_20 (by decide) ?_
      exact w_iret X I hr hlk (by first | exact (spQ_bad hbad).symm | (rw [spQ_ok hk (by omega), boF, if_neg p_14]; done) | (rw [spQ_ok hk (by omega), boF, if_pos p_14, if_pos p_23]; done) | (rw [spQ_ok hk (by omega), boF, if_pos p_14, if_neg p_23]; done)) dX4_boat_21
end
section
variable {l : Launch} {g : wG} {α : Nat → Nat} {N : Nat} {σ : wS} {p : Program} {e : Env} {s : State} {m : MethodId} {args : Array Value} {below : List Frame} {meth : Method} {c : Code}
set_option maxHeartbeats 4000000 in
set_option maxRecDepth 100000 in
theorem ctX4_clear (l : Launch) (g : wG) (α : Nat → Nat) (N : Nat) (σ : wS) (sz : Nat) (dr : Nat) (hN : 32 ≤ N) (hdr : σ.1 7 2 = nI dr) : Met l yX4_clear (wM yX4_clear cX4_clear 2 (some FieldType.int)) ({ frames := 0, cells := 0, slots := 0, locals := 0 } : Room) (wPs g α N sz σ [.ref (α 0)]) (va_Qi (fun r τ => r = nI dr ∧ τ = wu σ 7 2 0) (wB g α N) (wA α N sz)) 0 0 (wA α N sz) := by
  refine w_enter (by decide) (Nat.le_of_ble_eq_true rfl) (fun p e s m args below meth c hsz X I hr hlk ls hl => ?_)
  have hA : ∀ q, s.heap.size ≤ q → wA α N sz q := fun q h => Or.inr (by omega)
  have hx := X.1.1
  have hb := X.1.2.1
  have hl : lv_has ls 2 [(0, .ref (α 0))] := hl
  refine lv_aload_n hx hb dX4_clear_0 rfl (lv_at hl 0 rfl) ?_
  refine fg4_4 X I (by omega) kfX4_32 dX4_clear_1 ?_
  refine fg0_2 X I (by omega) kfX4_132 dX4_clear_4 ?_
  refine w_eqi hdr ?_
  refine lv_istore_n (lv' := [(1, .int (nI dr)), (0, .ref (α 0))]) hx hb dX4_clear_7 rfl hl (by decide) rfl (fun ls hl => ?_)
  refine lv_aload_n hx hb dX4_clear_8 rfl (lv_at hl 1 rfl) ?_
  refine fg4_4 X I (by omega) kfX4_32 dX4_clear_9 ?_
  refine lv_iconst (v := 0) hx hb dX4_clear_12 (by decide) ?_
  refine fp0_2 X I (by omega) kfX4_132 dX4_clear_13 (fun H locs I => ?_)
  refine lv_iload_n hx hb dX4_clear_16 rfl (lv_at hl 0 rfl) ?_
  exact w_iret X I hr hlk (⟨rfl, rfl⟩) dX4_clear_17
end
section
variable {l : Launch} {g : wG} {α : Nat → Nat} {N : Nat} {σ : wS} {p : Program} {e : Env} {s : State} {m : MethodId} {args : Array Value} {below : List Frame} {meth : Method} {c : Code}
set_option maxHeartbeats 4000000 in
set_option maxRecDepth 100000 in
theorem lpX0_append_5 {sz : Nat} (v : Int64) (m2 dr : Nat) (X : wX p s m args c cX0_append 5 RX0 g) (hsz : s.heap.size = sz) (hr : meth.sig.returnType = (none : Option FieldType)) (hlk : meth.locks = false) (hN : 32 ≤ N) (hdr : σ.1 7 2 = nI dr) (hm : dr + m2 ≤ 30) : ∀ (fu : Nat) (j : Nat) (τ : wS), j + 1 ≤ fu → j ≤ m2 → τ = apS σ v m2 dr (m2 - j) → τ.1 7 2 = nI (dr + (m2 - j)) → ∀ (H : Heap) (locs : List Loc), wI g α N (wA α N sz) s.heap H locs τ → ∀ ls : Array Slot, lv_has ls 5 [(0, .ref (α 7)), (1, .long v), (4, .int (nI j - 1))] → W p l e ({ frames := 0, cells := 0, slots := 0, locals := 0 } : Room) s m args below meth c H locs 0 0 (MQ below (va_Qv (fun τ => τ = apS σ v m2 dr m2 ∧ τ.1 7 2 = nI (dr + m2)) (wB g α N) (wA α N sz)) args s 0 0 (wA α N sz)) (F0 m 5 ls []) := by
  have hA : ∀ q, s.heap.size ≤ q → wA α N sz q := fun q h => Or.inr (by omega)
  have hx := X.1.1
  have hb := X.1.2.1
  intro fu
  induction fu with
  | zero =>
    intro j τ hfu hj hτ hl7
    exact absurd hfu (by omega)
  | succ fu ih =>
    intro j τ hfu hj hτ hl7 H locs I ls hl
    refine lv_iload hx hb dX0_append_5 (lv_at hl 2 rfl) ?_
    refine lv_if_lt (tgt := 47) hx hb dX0_append_7 (by decide) (fun c_7 => ?_) (fun c_7 => ?_)
    ·
      obtain rfl : j = 0 := (m1_neg (by omega)).mp c_7
      exact w_vret X I hr hlk (⟨hτ, hl7⟩) dX0_append_47
    ·
      obtain ⟨j', rfl⟩ : ∃ j', j = j' + 1 := ⟨j - 1, by have h0 : ¬ j = 0 := fun z => c_7 ((m1_neg (j := j) (by omega)).mpr z); omega⟩
      refine lv_aload_n hx hb dX0_append_10 rfl (lv_at hl 0 rfl) ?_
      refine fg0_0 X I (by omega) kfX0_9 dX0_append_11 ?_
      refine lv_aload_n hx hb dX0_append_14 rfl (lv_at hl 0 rfl) ?_
      refine fg0_2 X I (by omega) kfX0_18 dX0_append_15 ?_
      refine w_eqi hl7 ?_
      refine lv_lload_n hx hb dX0_append_18 rfl (lv_at hl 1 rfl) ?_
      refine lv_bipush (v := 8) hx hb dX0_append_19 (by decide) ?_
      refine lv_iload hx hb dX0_append_21 (lv_at hl 2 rfl) ?_
      refine w_eqi (nI_pred _) ?_
      refine lv_imul hx hb dX0_append_23 ?_
      refine lv_lushr hx hb dX0_append_24 rfl ?_
      refine lv_l2i hx hb dX0_append_25 rfl ?_
      refine lv_sipush (v := 255) hx hb dX0_append_26 (by decide) ?_
      refine lv_iand hx hb dX0_append_29 ?_
      refine w_st X I 8 (by omega) (n := 30) (k := dr + (m2 - (j' + 1))) (fun _ _ _ => rfl) rfl (by omega) (by decide) dX0_append_30 (fun H locs I => ?_)
      refine lv_aload_n hx hb dX0_append_31 rfl (lv_at hl 0 rfl) ?_
      refine lv_dup hx hb dX0_append_32 rfl ?_
      refine fg0_2 X I (by omega) kfX0_18 dX0_append_33 ?_
      refine w_eqi (wu_o (by decide)) ?_
      refine w_eqi hl7 ?_
      refine lv_iconst (v := 1) hx hb dX0_append_36 (by decide) ?_
      refine lv_iadd hx hb dX0_append_37 ?_
      refine w_eqi (nI_1 _) ?_
      refine fp0_2 X I (by omega) kfX0_18 dX0_append_38 (fun H locs I => ?_)
      refine lv_iinc (v := nI j' - 1) (lv' := [(4, .int (nI j' - 1)), (0, .ref (α 7)), (1, .long v)]) hx hb dX0_append_41 hl (k := 2) rfl (by rw [nI_pred]; exact m1e _) (by decide) rfl (fun ls hl => ?_)
      refine lv_goto (tgt := 5) hx hb dX0_append_44 (by decide) ?_
      exact ih j' (wu (wu τ 8 (dr + (m2 - (j' + 1))) ((((v.toUInt64 >>> ((8 * (nI j')).toInt64.toUInt64 &&& Int64.toUInt64 63)).toInt64).toInt32) &&& 255)) 7 2 (nI (dr + (m2 - (j' + 1)) + 1))) (by omega) (by omega) (by rw [show m2 - j' = (m2 - (j' + 1)) + 1 by omega, apS, ← hτ, show m2 - 1 - (m2 - (j' + 1)) = j' by omega]; rfl) (by rw [show dr + (m2 - j') = dr + (m2 - (j' + 1)) + 1 by omega]; exact wu_s) _ _ I ls (lv_sub hl [1, 2, 0] rfl)
set_option maxHeartbeats 4000000 in
set_option maxRecDepth 100000 in
theorem ctX0_append (l : Launch) (g : wG) (α : Nat → Nat) (N : Nat) (σ : wS) (sz : Nat) (v : Int64) (m2 dr : Nat) (hN : 32 ≤ N) (hdr : σ.1 7 2 = nI dr) (hm : dr + m2 ≤ 30) : Met l yX0_append (wM yX0_append cX0_append 5 (none : Option FieldType)) ({ frames := 0, cells := 0, slots := 0, locals := 0 } : Room) (wPs g α N sz σ [.ref (α 7), .long v, .int (nI m2)]) (va_Qv (fun τ => τ = apS σ v m2 dr m2 ∧ τ.1 7 2 = nI (dr + m2)) (wB g α N) (wA α N sz)) 0 0 (wA α N sz) := by
  refine w_enter (by decide) (Nat.le_of_ble_eq_true rfl) (fun p e s m args below meth c hsz X I hr hlk ls hl => ?_)
  have hA : ∀ q, s.heap.size ≤ q → wA α N sz q := fun q h => Or.inr (by omega)
  have hx := X.1.1
  have hb := X.1.2.1
  have hl : lv_has ls 5 [(0, .ref (α 7)), (1, .long v), (3, .int (nI m2))] := hl
  refine lv_iload_n hx hb dX0_append_0 rfl (lv_at hl 2 rfl) ?_
  refine lv_iconst (v := 1) hx hb dX0_append_1 (by decide) ?_
  refine lv_isub hx hb dX0_append_2 ?_
  refine lv_istore (lv' := [(4, .int ((nI m2) - 1)), (0, .ref (α 7)), (1, .long v), (3, .int (nI m2))]) hx hb dX0_append_3 hl (by decide) rfl (fun ls hl => ?_)
  exact lpX0_append_5 v m2 dr X hsz hr hlk hN hdr hm  (m2 + 1) m2 σ (by omega) (by omega) (by rw [Nat.sub_self]; rfl) (by rw [Nat.sub_self]; exact hdr) _ _ I ls (lv_sub hl [1, 2, 0] rfl)
end
section
variable {l : Launch} {g : wG} {α : Nat → Nat} {N : Nat} {σ : wS} {p : Program} {e : Env} {s : State} {m : MethodId} {args : Array Value} {below : List Frame} {meth : Method} {c : Code}
set_option maxHeartbeats 4000000 in
set_option maxRecDepth 100000 in
theorem ctX4_type (l : Launch) (g : wG) (α : Nat → Nat) (N : Nat) (σ : wS) (sz : Nat) (v : Int64) (b : Int32) (dr : Nat) (hN : 32 ≤ N) (hdr : σ.1 7 2 = nI dr) (hdr30 : dr ≤ 30) : Met l yX4_type (wM yX4_type cX4_type 4 (some FieldType.int)) ({ frames := 1, cells := 0, slots := 0, locals := 24 } : Room) (wPs g α N sz σ [.ref (α 0), .long v, .int b]) (va_Qi (fun r τ => (r, τ) = tyF σ dr v b) (wB g α N) (wA α N sz)) 0 0 (wA α N sz) := by
  refine w_enter (by decide) (Nat.le_of_ble_eq_true rfl) (fun p e s m args below meth c hsz X I hr hlk ls hl => ?_)
  have hA : ∀ q, s.heap.size ≤ q → wA α N sz q := fun q h => Or.inr (by omega)
  have hx := X.1.1
  have hb := X.1.2.1
  have hl : lv_has ls 4 [(0, .ref (α 0)), (1, .long v), (3, .int b)] := hl
  refine lv_iload_n hx hb dX4_type_0 rfl (lv_at hl 2 rfl) ?_
  refine lv_iconst (v := 1) hx hb dX4_type_1 (by decide) ?_
  refine lv_bipush (v := 8) hx hb dX4_type_2 (by decide) ?_
  refine w_sSi X I (As := [.int b, .int 1, .int 8]) (rest := []) (ctX4_within l g α N σ _ _ _ ) (wM_S kmX4_57 kt_X4_within kn_X4 kc_X4_within) rfl rfl (n := 3) (by decide +kernel) rfl ⟨by decide, by decide⟩ hl.1 rfl (Nat.le_of_ble_eq_true rfl) ⟨Nat.zero_le _, Nat.zero_le _⟩ dX4_type_4 (fun r_4 q_4 => ?_)
  by_cases p_4 : ¬ b < 1 ∧ ¬ 8 < b
  ·
    obtain rfl : r_4 = 1 := Eq.trans q_4 (if_pos p_4)
    refine lv_if_ne (tgt := 12) hx hb dX4_type_7 (by decide) (fun _ => ?_) (fun cc => absurd cc (by decide))
    refine lv_aload_n hx hb dX4_type_12 rfl (lv_at hl 0 rfl) ?_
    refine fg4_4 X I (by omega) kfX4_32 dX4_type_13 ?_
    refine fg0_2 X I (by omega) kfX4_132 dX4_type_16 ?_
    refine w_eqi hdr ?_
    refine lv_iload_n hx hb dX4_type_19 rfl (lv_at hl 2 rfl) ?_
    refine lv_iadd hx hb dX4_type_20 ?_
    refine lv_bipush (v := 30) hx hb dX4_type_21 (by decide) ?_
    refine lv_icmp_le (tgt := 29) hx hb dX4_type_23 (by decide) (fun c_23 => ?_) (fun c_23 => ?_)
    ·
      obtain ⟨m2, hm2, rfl⟩ : ∃ m2, m2 ≤ 8 ∧ b = nI m2 := nI_btw (n := 8) (fun z => p_4.1 (Int32.lt_trans z (by decide))) p_4.2 (by decide)
      have hm : dr + m2 ≤ 30 := by rw [nI_add] at c_23; exact nI_le' (b := 30) c_23 (by omega) (by decide)
      refine lv_aload_n hx hb dX4_type_29 rfl (lv_at hl 0 rfl) ?_
      refine fg4_4 X I (by omega) kfX4_32 dX4_type_30 ?_
      refine lv_lload_n hx hb dX4_type_33 rfl (lv_at hl 1 rfl) ?_
      refine lv_iload_n hx hb dX4_type_34 rfl (lv_at hl 2 rfl) ?_
      refine w_vv X I hA 7 (by omega) rfl rfl (As := [.long v, .int (nI m2)]) (rest := []) (ctX0_append l g α N σ _ v m2 dr hN hdr hm) (wM_V kmX4_135 ki_X0_append ks_X0_append kn_X0 kc_X0_append) rfl rfl (n := 2) (by decide +kernel) rfl ⟨by decide, by decide⟩ hl.1 rfl (Nat.le_of_ble_eq_true rfl) ⟨Nat.zero_le _, Nat.zero_le _⟩ dX4_type_35 (fun τ_35 H locs q_35 I => ?_)
      obtain ⟨rfl, q_36⟩ := q_35
      refine lv_aload_n hx hb dX4_type_38 rfl (lv_at hl 0 rfl) ?_
      refine fg4_4 X I (by omega) kfX4_32 dX4_type_39 ?_
      refine fg0_2 X I (by omega) kfX4_132 dX4_type_42 ?_
      refine w_eqi q_36 ?_
      exact w_iret X I hr hlk (by first | (rw [tyF, if_neg p_4]; done) | (rw [tyF, if_pos p_4, if_neg c_23]; done) | (rw [tyF, if_pos p_4, if_pos c_23, nI_clamp (by omega)])) dX4_type_45
    ·
      refine lv_bipush (v := (-3)) hx hb dX4_type_26 (by decide) ?_
      exact w_iret X I hr hlk (by first | (rw [tyF, if_neg p_4]; done) | (rw [tyF, if_pos p_4, if_neg c_23]; done) | (rw [tyF, if_pos p_4, if_pos c_23, nI_clamp (by omega)])) dX4_type_28
  ·
    obtain rfl : r_4 = 0 := Eq.trans q_4 (if_neg p_4)
    refine lv_if_ne (tgt := 12) hx hb dX4_type_7 (by decide) (fun cc => absurd cc (by decide)) (fun _ => ?_)
    refine lv_iconst (v := (-1)) hx hb dX4_type_10 (by decide) ?_
    exact w_iret X I hr hlk (by first | (rw [tyF, if_neg p_4]; done) | (rw [tyF, if_pos p_4, if_neg c_23]; done) | (rw [tyF, if_pos p_4, if_pos c_23, nI_clamp (by omega)])) dX4_type_11
end
section
variable {l : Launch} {g : wG} {α : Nat → Nat} {N : Nat} {σ : wS} {p : Program} {e : Env} {s : State} {m : MethodId} {args : Array Value} {below : List Frame} {meth : Method} {c : Code}
set_option maxHeartbeats 4000000 in
set_option maxRecDepth 100000 in
theorem ctX2_tell (l : Launch) (g : wG) (α : Nat → Nat) (N : Nat) (σ : wS) (sz : Nat) (k : Nat) (x1 x2 x3 : Int32) (hN : 32 ≤ N) (hk : k < 200) : Met l yX2_tell (wM yX2_tell cX2_tell 5 (none : Option FieldType)) ({ frames := 0, cells := 0, slots := 0, locals := 0 } : Room) (wPs g α N sz σ [.ref (α 10), .int (nI k), .int x1, .int x2, .int x3]) (va_Qv (fun τ => τ = wu (wu (wu σ 11 k x1) 12 k x2) 13 k x3) (wB g α N) (wA α N sz)) 0 0 (wA α N sz) := by
  refine w_enter (by decide) (Nat.le_of_ble_eq_true rfl) (fun p e s m args below meth c hsz X I hr hlk ls hl => ?_)
  have hA : ∀ q, s.heap.size ≤ q → wA α N sz q := fun q h => Or.inr (by omega)
  have hx := X.1.1
  have hb := X.1.2.1
  have hl : lv_has ls 5 [(0, .ref (α 10)), (1, .int (nI k)), (2, .int x1), (3, .int x2), (4, .int x3)] := hl
  refine lv_aload_n hx hb dX2_tell_0 rfl (lv_at hl 0 rfl) ?_
  refine fg2_0 X I (by omega) kfX2_9 dX2_tell_1 ?_
  refine lv_iload_n hx hb dX2_tell_4 rfl (lv_at hl 1 rfl) ?_
  refine lv_iload_n hx hb dX2_tell_5 rfl (lv_at hl 2 rfl) ?_
  refine w_st X I 11 (by omega) (n := 200) (k := k) (fun _ _ _ => rfl) rfl (by omega) (by decide) dX2_tell_6 (fun H locs I => ?_)
  refine lv_aload_n hx hb dX2_tell_7 rfl (lv_at hl 0 rfl) ?_
  refine fg2_1 X I (by omega) kfX2_15 dX2_tell_8 ?_
  refine lv_iload_n hx hb dX2_tell_11 rfl (lv_at hl 1 rfl) ?_
  refine lv_iload_n hx hb dX2_tell_12 rfl (lv_at hl 3 rfl) ?_
  refine w_st X I 12 (by omega) (n := 200) (k := k) (fun _ _ _ => rfl) rfl (by omega) (by decide) dX2_tell_13 (fun H locs I => ?_)
  refine lv_aload_n hx hb dX2_tell_14 rfl (lv_at hl 0 rfl) ?_
  refine fg2_2 X I (by omega) kfX2_18 dX2_tell_15 ?_
  refine lv_iload_n hx hb dX2_tell_18 rfl (lv_at hl 1 rfl) ?_
  refine lv_iload hx hb dX2_tell_19 (lv_at hl 4 rfl) ?_
  refine w_st X I 13 (by omega) (n := 200) (k := k) (fun _ _ _ => rfl) rfl (by omega) (by decide) dX2_tell_21 (fun H locs I => ?_)
  exact w_vret X I hr hlk rfl dX2_tell_22
end
section
variable {l : Launch} {g : wG} {α : Nat → Nat} {N : Nat} {σ : wS} {p : Program} {e : Env} {s : State} {m : MethodId} {args : Array Value} {below : List Frame} {meth : Method} {c : Code}
set_option maxHeartbeats 4000000 in
set_option maxRecDepth 100000 in
theorem ctX3_drink (l : Launch) (g : wG) (α : Nat → Nat) (N : Nat) (σ : wS) (sz : Nat) (i k : Nat) (hN : 36 + 4 * i ≤ N) (hk : k < 200) : Met l yX3_drink (wM yX3_drink cX3_drink 2 (none : Option FieldType)) ({ frames := 1, cells := 0, slots := 0, locals := 30 } : Room) (wPs g α N sz σ [.ref (α (32 + 4 * i)), .int (nI k)]) (va_Qv (fun τ => τ = drF σ i k) (wB g α N) (wA α N sz)) 0 0 (wA α N sz) := by
  refine w_enter (by decide) (Nat.le_of_ble_eq_true rfl) (fun p e s m args below meth c hsz X I hr hlk ls hl => ?_)
  have hA : ∀ q, s.heap.size ≤ q → wA α N sz q := fun q h => Or.inr (by omega)
  have hx := X.1.1
  have hb := X.1.2.1
  have hl : lv_has ls 2 [(0, .ref (α (32 + 4 * i))), (1, .int (nI k))] := hl
  refine lv_aload_n hx hb dX3_drink_0 rfl (lv_at hl 0 rfl) ?_
  refine w_vSi X I (32 + 4 * i) (by omega) (wc_ship g α i _ _ _) rfl (As := []) (rest := []) (ctX3_isLoaded l g α N σ i hN) (wM_V kmX3_43 ki_X3_isLoaded ks_X3_isLoaded kn_X3 kc_X3_isLoaded) rfl rfl (n := 0) (by decide +kernel) rfl ⟨by decide, by decide⟩ hl.1 rfl (Nat.le_of_ble_eq_true rfl) ⟨Nat.zero_le _, Nat.zero_le _⟩ dX3_drink_1 (fun r_1 q_1 => ?_)
  by_cases p_1 : ¬ σ.1 (32 + 4 * i) 9 = (-9)
  ·
    obtain rfl : r_1 = 1 := Eq.trans q_1 (if_pos p_1)
    refine lv_if_eq (tgt := 8) hx hb dX3_drink_4 (by decide) (fun cc => absurd cc (by decide)) (fun _ => ?_)
    exact w_vret X I hr hlk (by first | (simp only [drF, p_1, not_false_eq_true, not_true_eq_false, and_self, and_true, true_and, and_false, false_and, ite_true, ite_false, if_true, if_false, ↓reduceIte]; done) | (simp [drF, p_1]; done)) dX3_drink_7
  ·
    obtain rfl : r_1 = 0 := Eq.trans q_1 (if_neg p_1)
    refine lv_if_eq (tgt := 8) hx hb dX3_drink_4 (by decide) (fun _ => ?_) (fun cc => absurd cc (by decide))
    refine lv_aload_n hx hb dX3_drink_8 rfl (lv_at hl 0 rfl) ?_
    refine lv_iconst (v := 0) hx hb dX3_drink_9 (by decide) ?_
    refine lv_aload_n hx hb dX3_drink_10 rfl (lv_at hl 0 rfl) ?_
    refine fg3_8 X I i (by omega) kfX3_40 dX3_drink_11 ?_
    refine lv_iconst (v := 1) hx hb dX3_drink_14 (by decide) ?_
    refine lv_isub hx hb dX3_drink_15 ?_
    refine va_mmax hx hb (X.1.2.2.1.trans hl.1.symm) X.1.2.2.2.1 (X.1.2.2.2.2 _ kmX3_47) (X.1.2.2.2.2 _ kt_Math_max) (X.1.2.2.2.2 _ kn_Math) (X.1.2.2.2.2 _ kc_Math_max) (by decide) (Nat.le_of_ble_eq_true rfl) (Nat.zero_le _) (Nat.zero_le _) dX3_drink_16 ?_
    refine fp3_8 X I i (by omega) kfX3_40 dX3_drink_19 (fun H locs I => ?_)
    refine lv_aload_n hx hb dX3_drink_22 rfl (lv_at hl 0 rfl) ?_
    refine fg3_8 X I i (by omega) kfX3_40 dX3_drink_23 ?_
    refine w_eqi wu_s ?_
    refine lv_if_ne (tgt := 36) hx hb dX3_drink_26 (by decide) (fun c_26 => ?_) (fun c_26 => ?_)
    ·
      exact w_vret X I hr hlk (by first | (simp only [drF, p_1, c_26, not_false_eq_true, not_true_eq_false, and_self, and_true, true_and, and_false, false_and, ite_true, ite_false, if_true, if_false, ↓reduceIte]; done) | (simp [drF, p_1, c_26]; done)) dX3_drink_36
    ·
      refine lv_aload_n hx hb dX3_drink_29 rfl (lv_at hl 0 rfl) ?_
      refine fg3_5 X I i (by omega) kfX3_18 dX3_drink_30 ?_
      refine lv_iload_n hx hb dX3_drink_33 rfl (lv_at hl 1 rfl) ?_
      refine lv_iconst (v := (-1)) hx hb dX3_drink_34 (by decide) ?_
      refine w_st X I (35 + 4 * i) (by omega) (n := 200) (k := k) (fun _ _ _ => wc_log g α i _ _ _) rfl (by omega) (by decide) dX3_drink_35 (fun H locs I => ?_)
      exact w_vret X I hr hlk (by first | (simp only [drF, p_1, c_26, not_false_eq_true, not_true_eq_false, and_self, and_true, true_and, and_false, false_and, ite_true, ite_false, if_true, if_false, ↓reduceIte]; done) | (simp [drF, p_1, c_26]; done)) dX3_drink_36
end
section
variable {l : Launch} {g : wG} {α : Nat → Nat} {N : Nat} {σ : wS} {p : Program} {e : Env} {s : State} {m : MethodId} {args : Array Value} {below : List Frame} {meth : Method} {c : Code}
set_option maxHeartbeats 4000000 in
set_option maxRecDepth 100000 in
theorem ctX3_take (l : Launch) (g : wG) (α : Nat → Nat) (N : Nat) (σ : wS) (sz : Nat) (i k : Nat) (t : Int32) (hN : 36 + 4 * i ≤ N) (hk : k < 200) : Met l yX3_take (wM yX3_take cX3_take 3 (none : Option FieldType)) ({ frames := 0, cells := 0, slots := 0, locals := 0 } : Room) (wPs g α N sz σ [.ref (α (32 + 4 * i)), .int t, .int (nI k)]) (va_Qv (fun τ => τ = tkF σ i t k) (wB g α N) (wA α N sz)) 0 0 (wA α N sz) := by
  refine w_enter (by decide) (Nat.le_of_ble_eq_true rfl) (fun p e s m args below meth c hsz X I hr hlk ls hl => ?_)
  have hA : ∀ q, s.heap.size ≤ q → wA α N sz q := fun q h => Or.inr (by omega)
  have hx := X.1.1
  have hb := X.1.2.1
  have hl : lv_has ls 3 [(0, .ref (α (32 + 4 * i))), (1, .int t), (2, .int (nI k))] := hl
  refine lv_aload_n hx hb dX3_take_0 rfl (lv_at hl 0 rfl) ?_
  refine lv_dup hx hb dX3_take_1 rfl ?_
  refine fg3_6 X I i (by omega) kfX3_37 dX3_take_2 ?_
  refine lv_iload_n hx hb dX3_take_5 rfl (lv_at hl 1 rfl) ?_
  refine lv_isub hx hb dX3_take_6 ?_
  refine fp3_6 X I i (by omega) kfX3_37 dX3_take_7 (fun H locs I => ?_)
  refine lv_aload_n hx hb dX3_take_10 rfl (lv_at hl 0 rfl) ?_
  refine lv_dup hx hb dX3_take_11 rfl ?_
  refine fg3_7 X I i (by omega) kfX3_21 dX3_take_12 ?_
  refine w_eqi (wu_d (by decide)) ?_
  refine lv_iload_n hx hb dX3_take_15 rfl (lv_at hl 1 rfl) ?_
  refine lv_iadd hx hb dX3_take_16 ?_
  refine fp3_7 X I i (by omega) kfX3_21 dX3_take_17 (fun H locs I => ?_)
  refine lv_aload_n hx hb dX3_take_20 rfl (lv_at hl 0 rfl) ?_
  refine fg3_5 X I i (by omega) kfX3_18 dX3_take_21 ?_
  refine lv_iload_n hx hb dX3_take_24 rfl (lv_at hl 2 rfl) ?_
  refine lv_iload_n hx hb dX3_take_25 rfl (lv_at hl 1 rfl) ?_
  refine w_st X I (35 + 4 * i) (by omega) (n := 200) (k := k) (fun _ _ _ => wc_log g α i _ _ _) rfl (by omega) (by decide) dX3_take_26 (fun H locs I => ?_)
  refine lv_aload_n hx hb dX3_take_27 rfl (lv_at hl 0 rfl) ?_
  refine fg3_6 X I i (by omega) kfX3_37 dX3_take_28 ?_
  refine w_eqi (((wu_o (by omega)).trans (wu_d (by decide))).trans (wu_s)) ?_
  refine lv_if_ne (tgt := 39) hx hb dX3_take_31 (by decide) (fun c_31 => ?_) (fun c_31 => ?_)
  ·
    exact w_vret X I hr hlk (by first | (simp only [tkF, c_31, not_false_eq_true, not_true_eq_false, and_self, and_true, true_and, and_false, false_and, ite_true, ite_false, if_true, if_false, ↓reduceIte]; done) | (simp [tkF, c_31]; done)) dX3_take_39
  ·
    refine lv_aload_n hx hb dX3_take_34 rfl (lv_at hl 0 rfl) ?_
    refine lv_iload_n hx hb dX3_take_35 rfl (lv_at hl 2 rfl) ?_
    refine fp3_9 X I i (by omega) kfX3_25 dX3_take_36 (fun H locs I => ?_)
    exact w_vret X I hr hlk (by first | (simp only [tkF, c_31, not_false_eq_true, not_true_eq_false, and_self, and_true, true_and, and_false, false_and, ite_true, ite_false, if_true, if_false, ↓reduceIte]; done) | (simp [tkF, c_31]; done)) dX3_take_39
end
section
variable {l : Launch} {g : wG} {α : Nat → Nat} {N : Nat} {σ : wS} {p : Program} {e : Env} {s : State} {m : MethodId} {args : Array Value} {below : List Frame} {meth : Method} {c : Code}
set_option maxHeartbeats 4000000 in
set_option maxRecDepth 100000 in
theorem lpX1_dig_5 {sz : Nat} (i ly : Nat) (mo : Int32) (X : wX p s m args c cX1_dig 6 RX1 g) (hsz : s.heap.size = sz) (hr : meth.sig.returnType = (some FieldType.int)) (hlk : meth.locks = false) (hN : 36 + 4 * i ≤ N) (hz : σ.1 2 2 = nI ly) (hly : ly ≤ 6) : ∀ (fu : Nat) (k : Nat) (acc : Int32) (τ : wS), ly + 1 ≤ k + fu → k ≤ ly → τ = (dgS σ i mo k).1 → acc = (dgS σ i mo k).2 → ∀ (H : Heap) (locs : List Loc), wI g α N (wA α N sz) s.heap H locs τ → ∀ ls : Array Slot, lv_has ls 6 [(0, .ref (α 2)), (1, .int mo), (2, .ref (α (33 + 4 * i))), (3, .int acc), (4, .int (nI k))] → W p l e ({ frames := 1, cells := 0, slots := 0, locals := 30 } : Room) s m args below meth c H locs 0 0 (MQ below (va_Qi (fun r τ => r = (dgS σ i mo ly).2 ∧ τ = (dgS σ i mo ly).1) (wB g α N) (wA α N sz)) args s 0 0 (wA α N sz)) (F0 m 5 ls []) := by
  have hA : ∀ q, s.heap.size ≤ q → wA α N sz q := fun q h => Or.inr (by omega)
  have hx := X.1.1
  have hb := X.1.2.1
  intro fu
  induction fu with
  | zero =>
    intro k acc τ hfu hk hτ ha
    exact absurd hfu (by omega)
  | succ fu ih =>
    intro k acc τ hfu hk hτ ha H locs I ls hl
    have hz2 : τ.1 2 2 = nI ly := by rw [hτ]; exact (dgS_o σ i mo (by decide) (by omega) k).trans hz
    refine lv_iload hx hb dX1_dig_5 (lv_at hl 4 rfl) ?_
    refine lv_aload_n hx hb dX1_dig_7 rfl (lv_at hl 0 rfl) ?_
    refine fg1_2 X I (by omega) kfX1_18 dX1_dig_8 ?_
    refine w_eqi hz2 ?_
    refine lv_icmp_ge (tgt := 61) hx hb dX1_dig_11 (by decide) (fun c_11 => ?_) (fun c_11 => ?_)
    ·
      have e : k = ly := by have := nI_le' c_11 (by omega) (by omega); omega
      refine lv_iload_n hx hb dX1_dig_61 rfl (lv_at hl 3 rfl) ?_
      exact w_iret X I hr hlk (⟨by rw [ha, e], by rw [hτ, e]⟩) dX1_dig_62
    ·
      have hlt : k < ly := by
        rcases Nat.lt_or_ge k ly with q | q
        · exact q
        · exact absurd (nI_le q (by omega)) c_11
      refine lv_iload_n hx hb dX1_dig_14 rfl (lv_at hl 1 rfl) ?_
      refine lv_iload_n hx hb dX1_dig_15 rfl (lv_at hl 3 rfl) ?_
      refine lv_isub hx hb dX1_dig_16 ?_
      refine lv_aload_n hx hb dX1_dig_17 rfl (lv_at hl 0 rfl) ?_
      refine fg1_0 X I (by omega) kfX1_9 dX1_dig_18 ?_
      refine lv_iload hx hb dX1_dig_21 (lv_at hl 4 rfl) ?_
      refine w_ld X I 3 (by omega) (n := 6) (k := k) (fun _ _ _ => rfl) rfl (by omega) (by decide) dX1_dig_23 ?_
      refine va_mmin hx hb (X.1.2.2.1.trans hl.1.symm) X.1.2.2.2.1 (X.1.2.2.2.2 _ kmX1_22) (X.1.2.2.2.2 _ kt_Math_min) (X.1.2.2.2.2 _ kn_Math) (X.1.2.2.2.2 _ kc_Math_min) (by decide) (Nat.le_of_ble_eq_true rfl) (Nat.zero_le _) (Nat.zero_le _) dX1_dig_24 ?_
      refine lv_istore (lv' := [(5, .int (if (τ.1 3 k) < (mo - acc) then (τ.1 3 k) else (mo - acc))), (0, .ref (α 2)), (1, .int mo), (2, .ref (α (33 + 4 * i))), (3, .int acc), (4, .int (nI k))]) hx hb dX1_dig_27 hl (by decide) rfl (fun ls hl => ?_)
      refine lv_aload_n hx hb dX1_dig_29 rfl (lv_at hl 1 rfl) ?_
      refine fg1_0 X I (by omega) kfX1_9 dX1_dig_30 ?_
      refine lv_iload hx hb dX1_dig_33 (lv_at hl 5 rfl) ?_
      refine lv_dup2_11 hx hb dX1_dig_35 rfl rfl ?_
      refine w_ld X I 3 (by omega) (n := 6) (k := k) (fun _ _ _ => rfl) rfl (by omega) (by decide) dX1_dig_36 ?_
      refine lv_iload hx hb dX1_dig_37 (lv_at hl 0 rfl) ?_
      refine lv_isub hx hb dX1_dig_39 ?_
      refine w_st X I 3 (by omega) (n := 6) (k := k) (fun _ _ _ => rfl) rfl (by omega) (by decide) dX1_dig_40 (fun H locs I => ?_)
      refine lv_aload_n hx hb dX1_dig_41 rfl (lv_at hl 3 rfl) ?_
      refine lv_iload hx hb dX1_dig_42 (lv_at hl 5 rfl) ?_
      refine lv_dup2_11 hx hb dX1_dig_44 rfl rfl ?_
      refine w_ld X I (33 + 4 * i) (by omega) (n := 6) (k := k) (fun _ _ _ => wc_cargo g α i _ _ _) rfl (by omega) (by decide) dX1_dig_45 ?_
      refine w_eqi (wu_o (by omega)) ?_
      refine lv_iload hx hb dX1_dig_46 (lv_at hl 0 rfl) ?_
      refine lv_iadd hx hb dX1_dig_48 ?_
      refine w_st X I (33 + 4 * i) (by omega) (n := 6) (k := k) (fun _ _ _ => wc_cargo g α i _ _ _) rfl (by omega) (by decide) dX1_dig_49 (fun H locs I => ?_)
      refine lv_iload_n hx hb dX1_dig_50 rfl (lv_at hl 4 rfl) ?_
      refine lv_iload hx hb dX1_dig_51 (lv_at hl 0 rfl) ?_
      refine lv_iadd hx hb dX1_dig_53 ?_
      refine lv_istore_n (lv' := [(3, .int (acc + (if (τ.1 3 k) < (mo - acc) then (τ.1 3 k) else (mo - acc)))), (5, .int (if (τ.1 3 k) < (mo - acc) then (τ.1 3 k) else (mo - acc))), (0, .ref (α 2)), (1, .int mo), (2, .ref (α (33 + 4 * i))), (4, .int (nI k))]) hx hb dX1_dig_54 rfl hl (by decide) rfl (fun ls hl => ?_)
      refine lv_iinc (v := nI (k + 1)) (lv' := [(4, .int (nI (k + 1))), (3, .int (acc + (if (τ.1 3 k) < (mo - acc) then (τ.1 3 k) else (mo - acc)))), (5, .int (if (τ.1 3 k) < (mo - acc) then (τ.1 3 k) else (mo - acc))), (0, .ref (α 2)), (1, .int mo), (2, .ref (α (33 + 4 * i)))]) hx hb dX1_dig_55 hl (k := 5) rfl (nI_1 _) (by decide) rfl (fun ls hl => ?_)
      refine lv_goto (tgt := 5) hx hb dX1_dig_58 (by decide) ?_
      exact ih (k + 1) (acc + (if (τ.1 3 k) < (mo - acc) then (τ.1 3 k) else (mo - acc))) (wu (wu τ 3 k ((τ.1 3 k) - (if (τ.1 3 k) < (mo - acc) then (τ.1 3 k) else (mo - acc)))) (33 + 4 * i) k ((τ.1 (33 + 4 * i) k) + (if (τ.1 3 k) < (mo - acc) then (τ.1 3 k) else (mo - acc)))) (by omega) (by omega) (by rw [dgS, hτ, ha]; rfl) (by rw [dgS, hτ, ha]; rfl) _ _ I ls (lv_sub hl [3, 4, 5, 1, 0] rfl)
set_option maxHeartbeats 4000000 in
set_option maxRecDepth 100000 in
theorem ctX1_dig (l : Launch) (g : wG) (α : Nat → Nat) (N : Nat) (σ : wS) (sz : Nat) (i ly : Nat) (mo : Int32) (hN : 36 + 4 * i ≤ N) (hz : σ.1 2 2 = nI ly) (hly : ly ≤ 6) : Met l yX1_dig (wM yX1_dig cX1_dig 6 (some FieldType.int)) ({ frames := 1, cells := 0, slots := 0, locals := 30 } : Room) (wPs g α N sz σ [.ref (α 2), .int mo, .ref (α (33 + 4 * i))]) (va_Qi (fun r τ => r = (dgS σ i mo ly).2 ∧ τ = (dgS σ i mo ly).1) (wB g α N) (wA α N sz)) 0 0 (wA α N sz) := by
  refine w_enter (by decide) (Nat.le_of_ble_eq_true rfl) (fun p e s m args below meth c hsz X I hr hlk ls hl => ?_)
  have hA : ∀ q, s.heap.size ≤ q → wA α N sz q := fun q h => Or.inr (by omega)
  have hx := X.1.1
  have hb := X.1.2.1
  have hl : lv_has ls 6 [(0, .ref (α 2)), (1, .int mo), (2, .ref (α (33 + 4 * i)))] := hl
  refine lv_iconst (v := 0) hx hb dX1_dig_0 (by decide) ?_
  refine lv_istore_n (lv' := [(3, .int 0), (0, .ref (α 2)), (1, .int mo), (2, .ref (α (33 + 4 * i)))]) hx hb dX1_dig_1 rfl hl (by decide) rfl (fun ls hl => ?_)
  refine lv_iconst (v := 0) hx hb dX1_dig_2 (by decide) ?_
  refine lv_istore (lv' := [(4, .int 0), (3, .int 0), (0, .ref (α 2)), (1, .int mo), (2, .ref (α (33 + 4 * i)))]) hx hb dX1_dig_3 hl (by decide) rfl (fun ls hl => ?_)
  exact lpX1_dig_5 i ly mo X hsz hr hlk hN hz hly  (ly + 1) 0 0 σ (by omega) (by omega) rfl rfl _ _ I ls (lv_sub hl [2, 3, 4, 1, 0] rfl)
end
section
variable {l : Launch} {g : wG} {α : Nat → Nat} {N : Nat} {σ : wS} {p : Program} {e : Env} {s : State} {m : MethodId} {args : Array Value} {below : List Frame} {meth : Method} {c : Code}
set_option maxHeartbeats 4000000 in
set_option maxRecDepth 100000 in
theorem ctX4_tonsAt (l : Launch) (g : wG) (α : Nat → Nat) (N : Nat) (σ : wS) (pl d : Nat) (hN : 32 ≤ N) (hd : σ.1 0 6 = nI d) (hd200 : d ≤ 200) : Met l yX4_tonsAt (wM yX4_tonsAt cX4_tonsAt 2 (some FieldType.int)) ({ frames := 1, cells := 0, slots := 0, locals := 21 } : Room) (wPc g α N σ [.ref (α 0), .int (nI pl)]) (vp_Si (fun r => r = taF (σ.1 1 d) pl)) 0 0 (fun _ => False) := by
  refine w_enterS (by decide) (Nat.le_of_ble_eq_true rfl) (fun p e s m args below meth c X I hr hlk ls hl => ?_)
  have hx := X.1.1
  have hb := X.1.2.1
  have hl : lv_has ls 2 [(0, .ref (α 0)), (1, .int (nI pl))] := hl
  refine lv_iload_n hx hb dX4_tonsAt_0 rfl (lv_at hl 1 rfl) ?_
  refine lv_iconst (v := 2) hx hb dX4_tonsAt_1 (by decide) ?_
  refine lv_icmp_ge (tgt := 19) hx hb dX4_tonsAt_2 (by decide) (fun c_2 => ?_) (fun c_2 => ?_)
  ·
    refine lv_aload_n hx hb dX4_tonsAt_19 rfl (lv_at hl 0 rfl) ?_
    refine lv_aload_n hx hb dX4_tonsAt_20 rfl (lv_at hl 0 rfl) ?_
    refine fg4_6 X I (by omega) kfX4_43 dX4_tonsAt_21 ?_
    refine w_eqi hd ?_
    refine w_vSi X I 0 (by omega) rfl rfl (As := [.int (nI d)]) (rest := []) (ctX4_lightersShut l g α N σ d hN (by omega)) (wM_V kmX4_231 ki_X4_lightersShut ks_X4_lightersShut kn_X4 kc_X4_lightersShut) rfl rfl (n := 1) (by decide +kernel) rfl ⟨by decide, by decide⟩ hl.1 rfl (Nat.le_of_ble_eq_true rfl) ⟨Nat.zero_le _, Nat.zero_le _⟩ dX4_tonsAt_24 (fun r_24 q_24 => ?_)
    by_cases p_24 : 7 < σ.1 1 d
    ·
      obtain rfl : r_24 = 1 := Eq.trans q_24 (if_pos p_24)
      refine lv_if_eq (tgt := 34) hx hb dX4_tonsAt_27 (by decide) (fun cc => absurd cc (by decide)) (fun _ => ?_)
      refine lv_iconst (v := 0) hx hb dX4_tonsAt_30 (by decide) ?_
      refine lv_goto (tgt := 36) hx hb dX4_tonsAt_31 (by decide) ?_
      exact w_iretS X hr hlk (by simp [taF, c_2, p_24]) dX4_tonsAt_36
    ·
      obtain rfl : r_24 = 0 := Eq.trans q_24 (if_neg p_24)
      refine lv_if_eq (tgt := 34) hx hb dX4_tonsAt_27 (by decide) (fun _ => ?_) (fun cc => absurd cc (by decide))
      refine lv_bipush (v := 15) hx hb dX4_tonsAt_34 (by decide) ?_
      exact w_iretS X hr hlk (by simp [taF, c_2, p_24]) dX4_tonsAt_36
  ·
    refine lv_aload_n hx hb dX4_tonsAt_5 rfl (lv_at hl 0 rfl) ?_
    refine lv_aload_n hx hb dX4_tonsAt_6 rfl (lv_at hl 0 rfl) ?_
    refine fg4_6 X I (by omega) kfX4_43 dX4_tonsAt_7 ?_
    refine w_eqi hd ?_
    refine w_vSi X I 0 (by omega) rfl rfl (As := [.int (nI d)]) (rest := []) (ctX4_chutesShut l g α N σ d hN (by omega)) (wM_V kmX4_228 ki_X4_chutesShut ks_X4_chutesShut kn_X4 kc_X4_chutesShut) rfl rfl (n := 1) (by decide +kernel) rfl ⟨by decide, by decide⟩ hl.1 rfl (Nat.le_of_ble_eq_true rfl) ⟨Nat.zero_le _, Nat.zero_le _⟩ dX4_tonsAt_10 (fun r_10 q_10 => ?_)
    by_cases p_10 : 4 < σ.1 1 d
    ·
      obtain rfl : r_10 = 1 := Eq.trans q_10 (if_pos p_10)
      refine lv_if_ne (tgt := 19) hx hb dX4_tonsAt_13 (by decide) (fun _ => ?_) (fun cc => absurd cc (by decide))
      refine lv_aload_n hx hb dX4_tonsAt_19 rfl (lv_at hl 0 rfl) ?_
      refine lv_aload_n hx hb dX4_tonsAt_20 rfl (lv_at hl 0 rfl) ?_
      refine fg4_6 X I (by omega) kfX4_43 dX4_tonsAt_21 ?_
      refine w_eqi hd ?_
      refine w_vSi X I 0 (by omega) rfl rfl (As := [.int (nI d)]) (rest := []) (ctX4_lightersShut l g α N σ d hN (by omega)) (wM_V kmX4_231 ki_X4_lightersShut ks_X4_lightersShut kn_X4 kc_X4_lightersShut) rfl rfl (n := 1) (by decide +kernel) rfl ⟨by decide, by decide⟩ hl.1 rfl (Nat.le_of_ble_eq_true rfl) ⟨Nat.zero_le _, Nat.zero_le _⟩ dX4_tonsAt_24 (fun r_24 q_24 => ?_)
      by_cases p_24 : 7 < σ.1 1 d
      ·
        obtain rfl : r_24 = 1 := Eq.trans q_24 (if_pos p_24)
        refine lv_if_eq (tgt := 34) hx hb dX4_tonsAt_27 (by decide) (fun cc => absurd cc (by decide)) (fun _ => ?_)
        refine lv_iconst (v := 0) hx hb dX4_tonsAt_30 (by decide) ?_
        refine lv_goto (tgt := 36) hx hb dX4_tonsAt_31 (by decide) ?_
        exact w_iretS X hr hlk (by simp [taF, c_2, p_10, p_24]) dX4_tonsAt_36
      ·
        obtain rfl : r_24 = 0 := Eq.trans q_24 (if_neg p_24)
        refine lv_if_eq (tgt := 34) hx hb dX4_tonsAt_27 (by decide) (fun _ => ?_) (fun cc => absurd cc (by decide))
        refine lv_bipush (v := 15) hx hb dX4_tonsAt_34 (by decide) ?_
        exact w_iretS X hr hlk (by simp [taF, c_2, p_10, p_24]) dX4_tonsAt_36
    ·
      obtain rfl : r_10 = 0 := Eq.trans q_10 (if_neg p_10)
      refine lv_if_ne (tgt := 19) hx hb dX4_tonsAt_13 (by decide) (fun cc => absurd cc (by decide)) (fun _ => ?_)
      refine lv_bipush (v := 60) hx hb dX4_tonsAt_16 (by decide) ?_
      exact w_iretS X hr hlk (by simp [taF, c_2, p_10]) dX4_tonsAt_18
end
end
section
section
variable {l : Launch} {g : wG} {α : Nat → Nat} {N : Nat} {σ : wS} {p : Program} {e : Env} {s : State} {m : MethodId} {args : Array Value} {below : List Frame} {meth : Method} {c : Code}
set_option maxHeartbeats 4000000 in
set_option maxRecDepth 100000 in
theorem ctX5_isShip (l : Launch) (g : wG) (α : Nat → Nat) (N : Nat) (σ : wS) (a : Int32) (n : Nat) (hN : 32 ≤ N) (hn : σ.1 14 7 = nI n) : Met l yX5_isShip (wM yX5_isShip cX5_isShip 2 (some FieldType.boolean)) ({ frames := 1, cells := 0, slots := 0, locals := 22 } : Room) (wPc g α N σ [.ref (α 14), .int a]) (vp_Si (fun r => r = if ¬ a < 0 ∧ ¬ nI n - 1 < a then 1 else 0)) 0 0 (fun _ => False) := by
  refine w_enterS (by decide) (Nat.le_of_ble_eq_true rfl) (fun p e s m args below meth c X I hr hlk ls hl => ?_)
  have hx := X.1.1
  have hb := X.1.2.1
  have hl : lv_has ls 2 [(0, .ref (α 14)), (1, .int a)] := hl
  refine lv_iload_n hx hb dX5_isShip_0 rfl (lv_at hl 1 rfl) ?_
  refine lv_iconst (v := 0) hx hb dX5_isShip_1 (by decide) ?_
  refine lv_aload_n hx hb dX5_isShip_2 rfl (lv_at hl 0 rfl) ?_
  refine fg5_7 X I (by omega) kfX5_79 dX5_isShip_3 ?_
  refine w_eqi (y := nI n) hn ?_
  refine lv_iconst (v := 1) hx hb dX5_isShip_6 (by decide) ?_
  refine lv_isub hx hb dX5_isShip_7 ?_
  refine w_sSi X I (As := [.int a, .int 0, .int ((nI n) - 1)]) (rest := []) (ctX5_in l g α N σ _ _ _ ) (wM_S kmX5_69 kt_X5_in kn_X5 kc_X5_in) rfl rfl (n := 3) (by decide +kernel) rfl ⟨by decide, by decide⟩ hl.1 rfl (Nat.le_of_ble_eq_true rfl) ⟨Nat.zero_le _, Nat.zero_le _⟩ dX5_isShip_8 (fun r_8 q_8 => ?_)
  by_cases p_8 : ¬ a < 0 ∧ ¬ ((nI n) - 1) < a
  ·
    obtain rfl : r_8 = 1 := Eq.trans q_8 (if_pos p_8)
    exact w_zretS X hr hlk (Or.inr rfl) (by first | exact (if_pos p_8).symm | exact (if_neg p_8).symm) dX5_isShip_11
  ·
    obtain rfl : r_8 = 0 := Eq.trans q_8 (if_neg p_8)
    exact w_zretS X hr hlk (Or.inl rfl) (by first | exact (if_pos p_8).symm | exact (if_neg p_8).symm) dX5_isShip_11
end
section
variable {l : Launch} {g : wG} {α : Nat → Nat} {N : Nat} {σ : wS} {p : Program} {e : Env} {s : State} {m : MethodId} {args : Array Value} {below : List Frame} {meth : Method} {c : Code}
set_option maxHeartbeats 4000000 in
set_option maxRecDepth 100000 in
theorem ctX5_left (l : Launch) (g : wG) (α : Nat → Nat) (N : Nat) (σ : wS) (sz : Nat) (a : Int32) (ly : Nat) (hN : 32 ≤ N) (hz : σ.1 14 4 = nI ly) (hly : ly ≤ 6) : Met l yX5_left (wM yX5_left cX5_left 2 (some FieldType.int)) ({ frames := 1, cells := 0, slots := 0, locals := 22 } : Room) (wPs g α N sz σ [.ref (α 14), .int a]) (va_Qi (fun r τ => r = spq ly a (-1) (σ.1 16) ∧ τ = wu σ 14 0 0) (wB g α N) (wA α N sz)) 0 0 (wA α N sz) := by
  refine w_enter (by decide) (Nat.le_of_ble_eq_true rfl) (fun p e s m args below meth c hsz X I hr hlk ls hl => ?_)
  have hA : ∀ q, s.heap.size ≤ q → wA α N sz q := fun q h => Or.inr (by omega)
  have hx := X.1.1
  have hb := X.1.2.1
  have hl : lv_has ls 2 [(0, .ref (α 14)), (1, .int a)] := hl
  refine lv_aload_n hx hb dX5_left_0 rfl (lv_at hl 0 rfl) ?_
  refine lv_iconst (v := 0) hx hb dX5_left_1 (by decide) ?_
  refine fp5_0 X I (by omega) kfX5_66 dX5_left_2 (fun H locs I => ?_)
  refine lv_iload_n hx hb dX5_left_5 rfl (lv_at hl 1 rfl) ?_
  refine lv_iconst (v := 0) hx hb dX5_left_6 (by decide) ?_
  refine lv_aload_n hx hb dX5_left_7 rfl (lv_at hl 0 rfl) ?_
  refine fg5_4 X I (by omega) kfX5_73 dX5_left_8 ?_
  refine w_eqi (y := σ.1 14 4) (wu_d (by decide)) ?_
  refine w_eqi (y := nI ly) hz ?_
  refine lv_iconst (v := 1) hx hb dX5_left_11 (by decide) ?_
  refine lv_isub hx hb dX5_left_12 ?_
  refine w_sSi X I (As := [.int a, .int 0, .int ((nI ly) - 1)]) (rest := []) (ctX5_in l g α N (wu σ 14 0 0) _ _ _ ) (wM_S kmX5_69 kt_X5_in kn_X5 kc_X5_in) rfl rfl (n := 3) (by decide +kernel) rfl ⟨by decide, by decide⟩ hl.1 rfl (Nat.le_of_ble_eq_true rfl) ⟨Nat.zero_le _, Nat.zero_le _⟩ dX5_left_13 (fun r_13 q_13 => ?_)
  by_cases p_13 : ¬ a < 0 ∧ ¬ ((nI ly) - 1) < a
  ·
    obtain rfl : r_13 = 1 := Eq.trans q_13 (if_pos p_13)
    obtain ⟨k, hk, rfl⟩ := m1_ok (n := ly) (by omega) p_13
    refine lv_if_eq (tgt := 28) hx hb dX5_left_16 (by decide) (fun cc => absurd cc (by decide)) (fun _ => ?_)
    refine lv_aload_n hx hb dX5_left_19 rfl (lv_at hl 0 rfl) ?_
    refine fg5_5 X I (by omega) kfX5_13 dX5_left_20 ?_
    refine lv_iload_n hx hb dX5_left_23 rfl (lv_at hl 1 rfl) ?_
    refine w_ld X I 16 (by omega) (n := 6) (k := k) (fun _ _ _ => rfl) rfl (by omega) (by decide) dX5_left_24 ?_
    refine w_eqi (y := σ.1 16 k) (wu_o (by decide)) ?_
    refine lv_goto (tgt := 29) hx hb dX5_left_25 (by decide) ?_
    exact w_iret X I hr hlk (⟨by first | exact (spq_bad hbad).symm | exact (spq_ok hk (by omega)).symm, rfl⟩) dX5_left_29
  ·
    obtain rfl : r_13 = 0 := Eq.trans q_13 (if_neg p_13)
    have hbad := m1_bad (n := ly) (by omega) p_13
    refine lv_if_eq (tgt := 28) hx hb dX5_left_16 (by decide) (fun _ => ?_) (fun cc => absurd cc (by decide))
    refine lv_iconst (v := (-1)) hx hb dX5_left_28 (by decide) ?_
    exact w_iret X I hr hlk (⟨by first | exact (spq_bad hbad).symm | exact (spq_ok hk (by omega)).symm, rfl⟩) dX5_left_29
end
section
variable {l : Launch} {g : wG} {α : Nat → Nat} {N : Nat} {σ : wS} {p : Program} {e : Env} {s : State} {m : MethodId} {args : Array Value} {below : List Frame} {meth : Method} {c : Code}
set_option maxHeartbeats 4000000 in
set_option maxRecDepth 100000 in
theorem ctX5_cargo (l : Launch) (g : wG) (α : Nat → Nat) (N : Nat) (σ : wS) (sz : Nat) (a b : Int32) (n ly : Nat) (hn : σ.1 14 7 = nI n) (hn10 : n ≤ 10) (hN : 32 ≤ N) (hz : σ.1 14 4 = nI ly) (hly : ly ≤ 6) : Met l yX5_cargo (wM yX5_cargo cX5_cargo 3 (some FieldType.int)) ({ frames := 2, cells := 0, slots := 0, locals := 43 } : Room) (wPs g α N sz σ [.ref (α 14), .int a, .int b]) (va_Qi (fun r τ => r = spq n a (-1) (fun i => spq ly b (-1) (fun l => σ.1 23 (6 * i + l))) ∧ τ = wu σ 14 0 0) (wB g α N) (wA α N sz)) 0 0 (wA α N sz) := by
  refine w_enter (by decide) (Nat.le_of_ble_eq_true rfl) (fun p e s m args below meth c hsz X I hr hlk ls hl => ?_)
  have hA : ∀ q, s.heap.size ≤ q → wA α N sz q := fun q h => Or.inr (by omega)
  have hx := X.1.1
  have hb := X.1.2.1
  have hl : lv_has ls 3 [(0, .ref (α 14)), (1, .int a), (2, .int b)] := hl
  refine lv_aload_n hx hb dX5_cargo_0 rfl (lv_at hl 0 rfl) ?_
  refine lv_iconst (v := 0) hx hb dX5_cargo_1 (by decide) ?_
  refine fp5_0 X I (by omega) kfX5_66 dX5_cargo_2 (fun H locs I => ?_)
  refine lv_aload_n hx hb dX5_cargo_5 rfl (lv_at hl 0 rfl) ?_
  refine lv_iload_n hx hb dX5_cargo_6 rfl (lv_at hl 1 rfl) ?_
  refine w_vSi X I 14 (by omega) rfl rfl (As := [.int a]) (rest := []) (ctX5_isShip l g α N (wu σ 14 0 0) a n hN hn) (wM_V kmX5_82 ki_X5_isShip ks_X5_isShip kn_X5 kc_X5_isShip) rfl rfl (n := 1) (by decide +kernel) rfl ⟨by decide, by decide⟩ hl.1 rfl (Nat.le_of_ble_eq_true rfl) ⟨Nat.zero_le _, Nat.zero_le _⟩ dX5_cargo_7 (fun r_7 q_7 => ?_)
  by_cases p_7 : ¬ a < 0 ∧ ¬ nI n - 1 < a
  ·
    obtain rfl : r_7 = 1 := Eq.trans q_7 (if_pos p_7)
    obtain ⟨k, hk, rfl⟩ := m1_ok (n := n) (by omega) p_7
    refine lv_if_eq (tgt := 41) hx hb dX5_cargo_10 (by decide) (fun cc => absurd cc (by decide)) (fun _ => ?_)
    refine lv_iload_n hx hb dX5_cargo_13 rfl (lv_at hl 2 rfl) ?_
    refine lv_iconst (v := 0) hx hb dX5_cargo_14 (by decide) ?_
    refine lv_aload_n hx hb dX5_cargo_15 rfl (lv_at hl 0 rfl) ?_
    refine fg5_4 X I (by omega) kfX5_73 dX5_cargo_16 ?_
    refine w_eqi (y := σ.1 14 4) (wu_d (by decide)) ?_
    refine w_eqi (y := nI ly) hz ?_
    refine lv_iconst (v := 1) hx hb dX5_cargo_19 (by decide) ?_
    refine lv_isub hx hb dX5_cargo_20 ?_
    refine w_sSi X I (As := [.int b, .int 0, .int ((nI ly) - 1)]) (rest := []) (ctX5_in l g α N (wu σ 14 0 0) _ _ _ ) (wM_S kmX5_69 kt_X5_in kn_X5 kc_X5_in) rfl rfl (n := 3) (by decide +kernel) rfl ⟨by decide, by decide⟩ hl.1 rfl (Nat.le_of_ble_eq_true rfl) ⟨Nat.zero_le _, Nat.zero_le _⟩ dX5_cargo_21 (fun r_21 q_21 => ?_)
    by_cases p_21 : ¬ b < 0 ∧ ¬ ((nI ly) - 1) < b
    ·
      obtain rfl : r_21 = 1 := Eq.trans q_21 (if_pos p_21)
      obtain ⟨j, hj, rfl⟩ := m1_ok (n := ly) (by omega) p_21
      refine lv_if_eq (tgt := 41) hx hb dX5_cargo_24 (by decide) (fun cc => absurd cc (by decide)) (fun _ => ?_)
      refine lv_aload_n hx hb dX5_cargo_27 rfl (lv_at hl 0 rfl) ?_
      refine fg5_13 X I (by omega) kfX5_34 dX5_cargo_28 ?_
      refine lv_bipush (v := 6) hx hb dX5_cargo_31 (by decide) ?_
      refine lv_iload_n hx hb dX5_cargo_33 rfl (lv_at hl 1 rfl) ?_
      refine lv_imul hx hb dX5_cargo_34 ?_
      refine w_eqi (y := nI (6 * k)) (pk_mul 6 _) ?_
      refine lv_iload_n hx hb dX5_cargo_35 rfl (lv_at hl 2 rfl) ?_
      refine lv_iadd hx hb dX5_cargo_36 ?_
      refine w_eqi (y := nI (6 * k + j)) (nI_add _ _) ?_
      refine w_ld X I 23 (by omega) (n := 60) (k := 6 * k + j) (fun _ _ _ => rfl) rfl (by omega) (by decide) dX5_cargo_37 ?_
      refine w_eqi (y := σ.1 23 (6 * k + j)) (wu_o (by decide)) ?_
      refine lv_goto (tgt := 42) hx hb dX5_cargo_38 (by decide) ?_
      exact w_iret X I hr hlk (⟨by first | exact (spq_bad hbad).symm | exact ((spq_ok hk (by omega)).trans (spq_ok hj (by omega))).symm | exact ((spq_ok hk (by omega)).trans (spq_bad (m1_bad (by omega) p_21))).symm, rfl⟩) dX5_cargo_42
    ·
      obtain rfl : r_21 = 0 := Eq.trans q_21 (if_neg p_21)
      refine lv_if_eq (tgt := 41) hx hb dX5_cargo_24 (by decide) (fun _ => ?_) (fun cc => absurd cc (by decide))
      refine lv_iconst (v := (-1)) hx hb dX5_cargo_41 (by decide) ?_
      exact w_iret X I hr hlk (⟨by first | exact (spq_bad hbad).symm | exact ((spq_ok hk (by omega)).trans (spq_ok hj (by omega))).symm | exact ((spq_ok hk (by omega)).trans (spq_bad (m1_bad (by omega) p_21))).symm, rfl⟩) dX5_cargo_42
  ·
    obtain rfl : r_7 = 0 := Eq.trans q_7 (if_neg p_7)
    have hbad := m1_bad (n := n) (by omega) p_7
    refine lv_if_eq (tgt := 41) hx hb dX5_cargo_10 (by decide) (fun _ => ?_) (fun cc => absurd cc (by decide))
    refine lv_iconst (v := (-1)) hx hb dX5_cargo_41 (by decide) ?_
    exact w_iret X I hr hlk (⟨by first | exact (spq_bad hbad).symm | exact ((spq_ok hk (by omega)).trans (spq_ok hj (by omega))).symm | exact ((spq_ok hk (by omega)).trans (spq_bad (m1_bad (by omega) p_21))).symm, rfl⟩) dX5_cargo_42
end
section
variable {l : Launch} {g : wG} {α : Nat → Nat} {N : Nat} {σ : wS} {p : Program} {e : Env} {s : State} {m : MethodId} {args : Array Value} {below : List Frame} {meth : Method} {c : Code}
set_option maxHeartbeats 4000000 in
set_option maxRecDepth 100000 in
theorem ctX5_loaded (l : Launch) (g : wG) (α : Nat → Nat) (N : Nat) (σ : wS) (sz : Nat) (a b : Int32) (n d : Nat) (hn : σ.1 14 7 = nI n) (hn10 : n ≤ 10) (hN : 32 ≤ N) (hd : σ.1 14 2 = nI d) (hd200 : d ≤ 200) : Met l yX5_loaded (wM yX5_loaded cX5_loaded 3 (some FieldType.int)) ({ frames := 2, cells := 0, slots := 0, locals := 43 } : Room) (wPs g α N sz σ [.ref (α 14), .int a, .int b]) (va_Qi (fun r τ => r = spq n a (-2) (fun i => spq d b (-2) (fun l => σ.1 24 (201 * i + l))) ∧ τ = wu σ 14 0 0) (wB g α N) (wA α N sz)) 0 0 (wA α N sz) := by
  refine w_enter (by decide) (Nat.le_of_ble_eq_true rfl) (fun p e s m args below meth c hsz X I hr hlk ls hl => ?_)
  have hA : ∀ q, s.heap.size ≤ q → wA α N sz q := fun q h => Or.inr (by omega)
  have hx := X.1.1
  have hb := X.1.2.1
  have hl : lv_has ls 3 [(0, .ref (α 14)), (1, .int a), (2, .int b)] := hl
  refine lv_aload_n hx hb dX5_loaded_0 rfl (lv_at hl 0 rfl) ?_
  refine lv_iconst (v := 0) hx hb dX5_loaded_1 (by decide) ?_
  refine fp5_0 X I (by omega) kfX5_66 dX5_loaded_2 (fun H locs I => ?_)
  refine lv_aload_n hx hb dX5_loaded_5 rfl (lv_at hl 0 rfl) ?_
  refine lv_iload_n hx hb dX5_loaded_6 rfl (lv_at hl 1 rfl) ?_
  refine w_vSi X I 14 (by omega) rfl rfl (As := [.int a]) (rest := []) (ctX5_isShip l g α N (wu σ 14 0 0) a n hN hn) (wM_V kmX5_82 ki_X5_isShip ks_X5_isShip kn_X5 kc_X5_isShip) rfl rfl (n := 1) (by decide +kernel) rfl ⟨by decide, by decide⟩ hl.1 rfl (Nat.le_of_ble_eq_true rfl) ⟨Nat.zero_le _, Nat.zero_le _⟩ dX5_loaded_7 (fun r_7 q_7 => ?_)
  by_cases p_7 : ¬ a < 0 ∧ ¬ nI n - 1 < a
  ·
    obtain rfl : r_7 = 1 := Eq.trans q_7 (if_pos p_7)
    obtain ⟨k, hk, rfl⟩ := m1_ok (n := n) (by omega) p_7
    refine lv_if_eq (tgt := 42) hx hb dX5_loaded_10 (by decide) (fun cc => absurd cc (by decide)) (fun _ => ?_)
    refine lv_iload_n hx hb dX5_loaded_13 rfl (lv_at hl 2 rfl) ?_
    refine lv_iconst (v := 0) hx hb dX5_loaded_14 (by decide) ?_
    refine lv_aload_n hx hb dX5_loaded_15 rfl (lv_at hl 0 rfl) ?_
    refine fg5_2 X I (by omega) kfX5_76 dX5_loaded_16 ?_
    refine w_eqi (y := σ.1 14 2) (wu_d (by decide)) ?_
    refine w_eqi (y := nI d) hd ?_
    refine lv_iconst (v := 1) hx hb dX5_loaded_19 (by decide) ?_
    refine lv_isub hx hb dX5_loaded_20 ?_
    refine w_sSi X I (As := [.int b, .int 0, .int ((nI d) - 1)]) (rest := []) (ctX5_in l g α N (wu σ 14 0 0) _ _ _ ) (wM_S kmX5_69 kt_X5_in kn_X5 kc_X5_in) rfl rfl (n := 3) (by decide +kernel) rfl ⟨by decide, by decide⟩ hl.1 rfl (Nat.le_of_ble_eq_true rfl) ⟨Nat.zero_le _, Nat.zero_le _⟩ dX5_loaded_21 (fun r_21 q_21 => ?_)
    by_cases p_21 : ¬ b < 0 ∧ ¬ ((nI d) - 1) < b
    ·
      obtain rfl : r_21 = 1 := Eq.trans q_21 (if_pos p_21)
      obtain ⟨j, hj, rfl⟩ := m1_ok (n := d) (by omega) p_21
      refine lv_if_eq (tgt := 42) hx hb dX5_loaded_24 (by decide) (fun cc => absurd cc (by decide)) (fun _ => ?_)
      refine lv_aload_n hx hb dX5_loaded_27 rfl (lv_at hl 0 rfl) ?_
      refine fg5_14 X I (by omega) kfX5_37 dX5_loaded_28 ?_
      refine lv_sipush (v := 201) hx hb dX5_loaded_31 (by decide) ?_
      refine lv_iload_n hx hb dX5_loaded_34 rfl (lv_at hl 1 rfl) ?_
      refine lv_imul hx hb dX5_loaded_35 ?_
      refine w_eqi (y := nI (201 * k)) (pk_mul 201 _) ?_
      refine lv_iload_n hx hb dX5_loaded_36 rfl (lv_at hl 2 rfl) ?_
      refine lv_iadd hx hb dX5_loaded_37 ?_
      refine w_eqi (y := nI (201 * k + j)) (nI_add _ _) ?_
      refine w_ld X I 24 (by omega) (n := 2010) (k := 201 * k + j) (fun _ _ _ => rfl) rfl (by omega) (by decide) dX5_loaded_38 ?_
      refine w_eqi (y := σ.1 24 (201 * k + j)) (wu_o (by decide)) ?_
      refine lv_goto (tgt := 44) hx hb dX5_loaded_39 (by decide) ?_
      exact w_iret X I hr hlk (⟨by first | exact (spq_bad hbad).symm | exact ((spq_ok hk (by omega)).trans (spq_ok hj (by omega))).symm | exact ((spq_ok hk (by omega)).trans (spq_bad (m1_bad (by omega) p_21))).symm, rfl⟩) dX5_loaded_44
    ·
      obtain rfl : r_21 = 0 := Eq.trans q_21 (if_neg p_21)
      refine lv_if_eq (tgt := 42) hx hb dX5_loaded_24 (by decide) (fun _ => ?_) (fun cc => absurd cc (by decide))
      refine lv_bipush (v := (-2)) hx hb dX5_loaded_42 (by decide) ?_
      exact w_iret X I hr hlk (⟨by first | exact (spq_bad hbad).symm | exact ((spq_ok hk (by omega)).trans (spq_ok hj (by omega))).symm | exact ((spq_ok hk (by omega)).trans (spq_bad (m1_bad (by omega) p_21))).symm, rfl⟩) dX5_loaded_44
  ·
    obtain rfl : r_7 = 0 := Eq.trans q_7 (if_neg p_7)
    have hbad := m1_bad (n := n) (by omega) p_7
    refine lv_if_eq (tgt := 42) hx hb dX5_loaded_10 (by decide) (fun _ => ?_) (fun cc => absurd cc (by decide))
    refine lv_bipush (v := (-2)) hx hb dX5_loaded_42 (by decide) ?_
    exact w_iret X I hr hlk (⟨by first | exact (spq_bad hbad).symm | exact ((spq_ok hk (by omega)).trans (spq_ok hj (by omega))).symm | exact ((spq_ok hk (by omega)).trans (spq_bad (m1_bad (by omega) p_21))).symm, rfl⟩) dX5_loaded_44
end
section
variable {l : Launch} {g : wG} {α : Nat → Nat} {N : Nat} {σ : wS} {p : Program} {e : Env} {s : State} {m : MethodId} {args : Array Value} {below : List Frame} {meth : Method} {c : Code}
set_option maxHeartbeats 4000000 in
set_option maxRecDepth 100000 in
theorem ctX5_term (l : Launch) (g : wG) (α : Nat → Nat) (N : Nat) (σ : wS) (sz : Nat) (a b : Int32) (n : Nat) (hn : σ.1 14 7 = nI n) (hn10 : n ≤ 10) (hN : 32 ≤ N) : Met l yX5_term (wM yX5_term cX5_term 3 (some FieldType.int)) ({ frames := 2, cells := 0, slots := 0, locals := 43 } : Room) (wPs g α N sz σ [.ref (α 14), .int a, .int b]) (va_Qi (fun r τ => r = spq n a (-1) (fun i => spq 6 b (-1) (fun l => σ.1 29 (6 * i + l))) ∧ τ = wu σ 14 0 0) (wB g α N) (wA α N sz)) 0 0 (wA α N sz) := by
  refine w_enter (by decide) (Nat.le_of_ble_eq_true rfl) (fun p e s m args below meth c hsz X I hr hlk ls hl => ?_)
  have hA : ∀ q, s.heap.size ≤ q → wA α N sz q := fun q h => Or.inr (by omega)
  have hx := X.1.1
  have hb := X.1.2.1
  have hl : lv_has ls 3 [(0, .ref (α 14)), (1, .int a), (2, .int b)] := hl
  refine lv_aload_n hx hb dX5_term_0 rfl (lv_at hl 0 rfl) ?_
  refine lv_iconst (v := 0) hx hb dX5_term_1 (by decide) ?_
  refine fp5_0 X I (by omega) kfX5_66 dX5_term_2 (fun H locs I => ?_)
  refine lv_aload_n hx hb dX5_term_5 rfl (lv_at hl 0 rfl) ?_
  refine lv_iload_n hx hb dX5_term_6 rfl (lv_at hl 1 rfl) ?_
  refine w_vSi X I 14 (by omega) rfl rfl (As := [.int a]) (rest := []) (ctX5_isShip l g α N (wu σ 14 0 0) a n hN hn) (wM_V kmX5_82 ki_X5_isShip ks_X5_isShip kn_X5 kc_X5_isShip) rfl rfl (n := 1) (by decide +kernel) rfl ⟨by decide, by decide⟩ hl.1 rfl (Nat.le_of_ble_eq_true rfl) ⟨Nat.zero_le _, Nat.zero_le _⟩ dX5_term_7 (fun r_7 q_7 => ?_)
  by_cases p_7 : ¬ a < 0 ∧ ¬ nI n - 1 < a
  ·
    obtain rfl : r_7 = 1 := Eq.trans q_7 (if_pos p_7)
    obtain ⟨k, hk, rfl⟩ := m1_ok (n := n) (by omega) p_7
    refine lv_if_eq (tgt := 36) hx hb dX5_term_10 (by decide) (fun cc => absurd cc (by decide)) (fun _ => ?_)
    refine lv_iload_n hx hb dX5_term_13 rfl (lv_at hl 2 rfl) ?_
    refine lv_iconst (v := 0) hx hb dX5_term_14 (by decide) ?_
    refine lv_iconst (v := 5) hx hb dX5_term_15 (by decide) ?_
    refine w_sSi X I (As := [.int b, .int 0, .int 5]) (rest := []) (ctX5_in l g α N (wu σ 14 0 0) _ _ _ ) (wM_S kmX5_69 kt_X5_in kn_X5 kc_X5_in) rfl rfl (n := 3) (by decide +kernel) rfl ⟨by decide, by decide⟩ hl.1 rfl (Nat.le_of_ble_eq_true rfl) ⟨Nat.zero_le _, Nat.zero_le _⟩ dX5_term_16 (fun r_16 q_16 => ?_)
    by_cases p_16 : ¬ b < 0 ∧ ¬ 5 < b
    ·
      obtain rfl : r_16 = 1 := Eq.trans q_16 (if_pos p_16)
      obtain ⟨j, hj, rfl⟩ := m1_ok (n := 6) (by decide) p_16
      refine lv_if_eq (tgt := 36) hx hb dX5_term_19 (by decide) (fun cc => absurd cc (by decide)) (fun _ => ?_)
      refine lv_aload_n hx hb dX5_term_22 rfl (lv_at hl 0 rfl) ?_
      refine fg5_22 X I (by omega) kfX5_56 dX5_term_23 ?_
      refine lv_bipush (v := 6) hx hb dX5_term_26 (by decide) ?_
      refine lv_iload_n hx hb dX5_term_28 rfl (lv_at hl 1 rfl) ?_
      refine lv_imul hx hb dX5_term_29 ?_
      refine w_eqi (y := nI (6 * k)) (pk_mul 6 _) ?_
      refine lv_iload_n hx hb dX5_term_30 rfl (lv_at hl 2 rfl) ?_
      refine lv_iadd hx hb dX5_term_31 ?_
      refine w_eqi (y := nI (6 * k + j)) (nI_add _ _) ?_
      refine w_ld X I 29 (by omega) (n := 60) (k := 6 * k + j) (fun _ _ _ => rfl) rfl (by omega) (by decide) dX5_term_32 ?_
      refine w_eqi (y := σ.1 29 (6 * k + j)) (wu_o (by decide)) ?_
      refine lv_goto (tgt := 37) hx hb dX5_term_33 (by decide) ?_
      exact w_iret X I hr hlk (⟨by first | exact (spq_bad hbad).symm | exact ((spq_ok hk (by omega)).trans (spq_ok hj (by omega))).symm | exact ((spq_ok hk (by omega)).trans (spq_bad (m1_bad (n := 6) (by decide) p_16))).symm, rfl⟩) dX5_term_37
    ·
      obtain rfl : r_16 = 0 := Eq.trans q_16 (if_neg p_16)
      refine lv_if_eq (tgt := 36) hx hb dX5_term_19 (by decide) (fun _ => ?_) (fun cc => absurd cc (by decide))
      refine lv_iconst (v := (-1)) hx hb dX5_term_36 (by decide) ?_
      exact w_iret X I hr hlk (⟨by first | exact (spq_bad hbad).symm | exact ((spq_ok hk (by omega)).trans (spq_ok hj (by omega))).symm | exact ((spq_ok hk (by omega)).trans (spq_bad (m1_bad (n := 6) (by decide) p_16))).symm, rfl⟩) dX5_term_37
  ·
    obtain rfl : r_7 = 0 := Eq.trans q_7 (if_neg p_7)
    have hbad := m1_bad (n := n) (by omega) p_7
    refine lv_if_eq (tgt := 36) hx hb dX5_term_10 (by decide) (fun _ => ?_) (fun cc => absurd cc (by decide))
    refine lv_iconst (v := (-1)) hx hb dX5_term_36 (by decide) ?_
    exact w_iret X I hr hlk (⟨by first | exact (spq_bad hbad).symm | exact ((spq_ok hk (by omega)).trans (spq_ok hj (by omega))).symm | exact ((spq_ok hk (by omega)).trans (spq_bad (m1_bad (n := 6) (by decide) p_16))).symm, rfl⟩) dX5_term_37
end
section
variable {l : Launch} {g : wG} {α : Nat → Nat} {N : Nat} {σ : wS} {p : Program} {e : Env} {s : State} {m : MethodId} {args : Array Value} {below : List Frame} {meth : Method} {c : Code}
set_option maxHeartbeats 4000000 in
set_option maxRecDepth 100000 in
theorem lpX5_tonsOf_4 (i ly : Nat) (X : wX p s m args c cX5_tonsOf 4 RX5 g) (I : wI g α N (fun _ => True) s.heap s.heap [] σ) (hr : meth.sig.returnType = (some FieldType.int)) (hlk : meth.locks = false) (hN : 32 ≤ N) (hz : σ.1 14 4 = nI ly) (hly : ly ≤ 6) (hi : i < 10) : ∀ (fu : Nat) (k : Nat) (acc : Int32), ly + 1 ≤ k + fu → k ≤ ly → acc = smI (fun k => σ.1 23 (6 * i + k)) k → ∀ ls : Array Slot, lv_has ls 4 [(0, .ref (α 14)), (1, .int (nI i)), (2, .int acc), (3, .int (nI k))] → W p l e ({ frames := 0, cells := 0, slots := 0, locals := 0 } : Room) s m args below meth c s.heap [] 0 0 (MQ below (vp_Si (fun r => r = smI (fun k => σ.1 23 (6 * i + k)) ly)) args s 0 0 (fun _ => False)) (F0 m 4 ls []) := by
  have hx := X.1.1
  have hb := X.1.2.1
  intro fu
  induction fu with
  | zero =>
    intro k acc hfu hk ha
    exact absurd hfu (by omega)
  | succ fu ih =>
    intro k acc hfu hk ha ls hl
    refine lv_iload_n hx hb dX5_tonsOf_4 rfl (lv_at hl 3 rfl) ?_
    refine lv_aload_n hx hb dX5_tonsOf_5 rfl (lv_at hl 0 rfl) ?_
    refine fg5_4 X I (by omega) kfX5_73 dX5_tonsOf_6 ?_
    refine w_eqi (y := nI ly) hz ?_
    refine lv_icmp_ge (tgt := 32) hx hb dX5_tonsOf_9 (by decide) (fun c_9 => ?_) (fun c_9 => ?_)
    ·
      have e : k = ly := by have := nI_le' c_9 (by omega) (by omega); omega
      refine lv_iload_n hx hb dX5_tonsOf_32 rfl (lv_at hl 2 rfl) ?_
      exact w_iretS X hr hlk (by rw [ha, e]) dX5_tonsOf_33
    ·
      have hlt : k < ly := by
        rcases Nat.lt_or_ge k ly with q | q
        · exact q
        · exact absurd (nI_le q (by omega)) c_9
      refine lv_iload_n hx hb dX5_tonsOf_12 rfl (lv_at hl 2 rfl) ?_
      refine lv_aload_n hx hb dX5_tonsOf_13 rfl (lv_at hl 0 rfl) ?_
      refine fg5_13 X I (by omega) kfX5_34 dX5_tonsOf_14 ?_
      refine lv_bipush (v := 6) hx hb dX5_tonsOf_17 (by decide) ?_
      refine lv_iload_n hx hb dX5_tonsOf_19 rfl (lv_at hl 1 rfl) ?_
      refine lv_imul hx hb dX5_tonsOf_20 ?_
      refine w_eqi (y := nI (6 * i)) (pk_mul 6 _) ?_
      refine lv_iload_n hx hb dX5_tonsOf_21 rfl (lv_at hl 3 rfl) ?_
      refine lv_iadd hx hb dX5_tonsOf_22 ?_
      refine w_eqi (y := nI (6 * i + k)) (nI_add _ _) ?_
      refine w_ld X I 23 (by omega) (n := 60) (k := 6 * i + k) (fun _ _ _ => rfl) rfl (by omega) (by decide) dX5_tonsOf_23 ?_
      refine lv_iadd hx hb dX5_tonsOf_24 ?_
      refine lv_istore_n (lv' := [(2, .int (acc + (σ.1 23 (6 * i + k)))), (0, .ref (α 14)), (1, .int (nI i)), (3, .int (nI k))]) hx hb dX5_tonsOf_25 rfl hl (by decide) rfl (fun ls hl => ?_)
      refine lv_iinc (v := nI (k + 1)) (lv' := [(3, .int (nI (k + 1))), (2, .int (acc + (σ.1 23 (6 * i + k)))), (0, .ref (α 14)), (1, .int (nI i))]) hx hb dX5_tonsOf_26 hl (k := 3) rfl (nI_1 _) (by decide) rfl (fun ls hl => ?_)
      refine lv_goto (tgt := 4) hx hb dX5_tonsOf_29 (by decide) ?_
      exact ih (k + 1) (acc + (σ.1 23 (6 * i + k))) (by omega) (by omega) (by rw [ha]; rfl) ls (lv_sub hl [2, 3, 1, 0] rfl)
set_option maxHeartbeats 4000000 in
set_option maxRecDepth 100000 in
theorem ctX5_tonsOf (l : Launch) (g : wG) (α : Nat → Nat) (N : Nat) (σ : wS) (i ly : Nat) (hN : 32 ≤ N) (hz : σ.1 14 4 = nI ly) (hly : ly ≤ 6) (hi : i < 10) : Met l yX5_tonsOf (wM yX5_tonsOf cX5_tonsOf 4 (some FieldType.int)) ({ frames := 0, cells := 0, slots := 0, locals := 0 } : Room) (wPc g α N σ [.ref (α 14), .int (nI i)]) (vp_Si (fun r => r = smI (fun k => σ.1 23 (6 * i + k)) ly)) 0 0 (fun _ => False) := by
  refine w_enterS (by decide) (Nat.le_of_ble_eq_true rfl) (fun p e s m args below meth c X I hr hlk ls hl => ?_)
  have hx := X.1.1
  have hb := X.1.2.1
  have hl : lv_has ls 4 [(0, .ref (α 14)), (1, .int (nI i))] := hl
  refine lv_iconst (v := 0) hx hb dX5_tonsOf_0 (by decide) ?_
  refine lv_istore_n (lv' := [(2, .int 0), (0, .ref (α 14)), (1, .int (nI i))]) hx hb dX5_tonsOf_1 rfl hl (by decide) rfl (fun ls hl => ?_)
  refine lv_iconst (v := 0) hx hb dX5_tonsOf_2 (by decide) ?_
  refine lv_istore_n (lv' := [(3, .int 0), (2, .int 0), (0, .ref (α 14)), (1, .int (nI i))]) hx hb dX5_tonsOf_3 rfl hl (by decide) rfl (fun ls hl => ?_)
  exact lpX5_tonsOf_4 i ly X I hr hlk hN hz hly hi  (ly + 1) 0 0 (by omega) (by omega) rfl ls (lv_sub hl [2, 3, 1, 0] rfl)
end
section
variable {l : Launch} {g : wG} {α : Nat → Nat} {N : Nat} {σ : wS} {p : Program} {e : Env} {s : State} {m : MethodId} {args : Array Value} {below : List Frame} {meth : Method} {c : Code}
set_option maxHeartbeats 4000000 in
set_option maxRecDepth 100000 in
theorem lpX5_worthOf_4 (i ly : Nat) (X : wX p s m args c cX5_worthOf 4 RX5 g) (I : wI g α N (fun _ => True) s.heap s.heap [] σ) (hr : meth.sig.returnType = (some FieldType.int)) (hlk : meth.locks = false) (hN : 32 ≤ N) (hz : σ.1 14 4 = nI ly) (hly : ly ≤ 6) (hi : i < 10) : ∀ (fu : Nat) (k : Nat) (acc : Int32), ly + 1 ≤ k + fu → k ≤ ly → acc = smI (fun k => σ.1 23 (6 * i + k) * σ.1 17 k) k → ∀ ls : Array Slot, lv_has ls 4 [(0, .ref (α 14)), (1, .int (nI i)), (2, .int acc), (3, .int (nI k))] → W p l e ({ frames := 0, cells := 0, slots := 0, locals := 0 } : Room) s m args below meth c s.heap [] 0 0 (MQ below (vp_Si (fun r => r = smI (fun k => σ.1 23 (6 * i + k) * σ.1 17 k) ly)) args s 0 0 (fun _ => False)) (F0 m 4 ls []) := by
  have hx := X.1.1
  have hb := X.1.2.1
  intro fu
  induction fu with
  | zero =>
    intro k acc hfu hk ha
    exact absurd hfu (by omega)
  | succ fu ih =>
    intro k acc hfu hk ha ls hl
    refine lv_iload_n hx hb dX5_worthOf_4 rfl (lv_at hl 3 rfl) ?_
    refine lv_aload_n hx hb dX5_worthOf_5 rfl (lv_at hl 0 rfl) ?_
    refine fg5_4 X I (by omega) kfX5_73 dX5_worthOf_6 ?_
    refine w_eqi (y := nI ly) hz ?_
    refine lv_icmp_ge (tgt := 39) hx hb dX5_worthOf_9 (by decide) (fun c_9 => ?_) (fun c_9 => ?_)
    ·
      have e : k = ly := by have := nI_le' c_9 (by omega) (by omega); omega
      refine lv_iload_n hx hb dX5_worthOf_39 rfl (lv_at hl 2 rfl) ?_
      exact w_iretS X hr hlk (by rw [ha, e]) dX5_worthOf_40
    ·
      have hlt : k < ly := by
        rcases Nat.lt_or_ge k ly with q | q
        · exact q
        · exact absurd (nI_le q (by omega)) c_9
      refine lv_iload_n hx hb dX5_worthOf_12 rfl (lv_at hl 2 rfl) ?_
      refine lv_aload_n hx hb dX5_worthOf_13 rfl (lv_at hl 0 rfl) ?_
      refine fg5_13 X I (by omega) kfX5_34 dX5_worthOf_14 ?_
      refine lv_bipush (v := 6) hx hb dX5_worthOf_17 (by decide) ?_
      refine lv_iload_n hx hb dX5_worthOf_19 rfl (lv_at hl 1 rfl) ?_
      refine lv_imul hx hb dX5_worthOf_20 ?_
      refine w_eqi (y := nI (6 * i)) (pk_mul 6 _) ?_
      refine lv_iload_n hx hb dX5_worthOf_21 rfl (lv_at hl 3 rfl) ?_
      refine lv_iadd hx hb dX5_worthOf_22 ?_
      refine w_eqi (y := nI (6 * i + k)) (nI_add _ _) ?_
      refine w_ld X I 23 (by omega) (n := 60) (k := 6 * i + k) (fun _ _ _ => rfl) rfl (by omega) (by decide) dX5_worthOf_23 ?_
      refine lv_aload_n hx hb dX5_worthOf_24 rfl (lv_at hl 0 rfl) ?_
      refine fg5_6 X I (by omega) kfX5_16 dX5_worthOf_25 ?_
      refine lv_iload_n hx hb dX5_worthOf_28 rfl (lv_at hl 3 rfl) ?_
      refine w_ld X I 17 (by omega) (n := 6) (k := k) (fun _ _ _ => rfl) rfl (by omega) (by decide) dX5_worthOf_29 ?_
      refine lv_imul hx hb dX5_worthOf_30 ?_
      refine lv_iadd hx hb dX5_worthOf_31 ?_
      refine lv_istore_n (lv' := [(2, .int (acc + ((σ.1 23 (6 * i + k)) * (σ.1 17 k)))), (0, .ref (α 14)), (1, .int (nI i)), (3, .int (nI k))]) hx hb dX5_worthOf_32 rfl hl (by decide) rfl (fun ls hl => ?_)
      refine lv_iinc (v := nI (k + 1)) (lv' := [(3, .int (nI (k + 1))), (2, .int (acc + ((σ.1 23 (6 * i + k)) * (σ.1 17 k)))), (0, .ref (α 14)), (1, .int (nI i))]) hx hb dX5_worthOf_33 hl (k := 3) rfl (nI_1 _) (by decide) rfl (fun ls hl => ?_)
      refine lv_goto (tgt := 4) hx hb dX5_worthOf_36 (by decide) ?_
      exact ih (k + 1) (acc + ((σ.1 23 (6 * i + k)) * (σ.1 17 k))) (by omega) (by omega) (by rw [ha]; rfl) ls (lv_sub hl [2, 3, 1, 0] rfl)
set_option maxHeartbeats 4000000 in
set_option maxRecDepth 100000 in
theorem ctX5_worthOf (l : Launch) (g : wG) (α : Nat → Nat) (N : Nat) (σ : wS) (i ly : Nat) (hN : 32 ≤ N) (hz : σ.1 14 4 = nI ly) (hly : ly ≤ 6) (hi : i < 10) : Met l yX5_worthOf (wM yX5_worthOf cX5_worthOf 4 (some FieldType.int)) ({ frames := 0, cells := 0, slots := 0, locals := 0 } : Room) (wPc g α N σ [.ref (α 14), .int (nI i)]) (vp_Si (fun r => r = smI (fun k => σ.1 23 (6 * i + k) * σ.1 17 k) ly)) 0 0 (fun _ => False) := by
  refine w_enterS (by decide) (Nat.le_of_ble_eq_true rfl) (fun p e s m args below meth c X I hr hlk ls hl => ?_)
  have hx := X.1.1
  have hb := X.1.2.1
  have hl : lv_has ls 4 [(0, .ref (α 14)), (1, .int (nI i))] := hl
  refine lv_iconst (v := 0) hx hb dX5_worthOf_0 (by decide) ?_
  refine lv_istore_n (lv' := [(2, .int 0), (0, .ref (α 14)), (1, .int (nI i))]) hx hb dX5_worthOf_1 rfl hl (by decide) rfl (fun ls hl => ?_)
  refine lv_iconst (v := 0) hx hb dX5_worthOf_2 (by decide) ?_
  refine lv_istore_n (lv' := [(3, .int 0), (2, .int 0), (0, .ref (α 14)), (1, .int (nI i))]) hx hb dX5_worthOf_3 rfl hl (by decide) rfl (fun ls hl => ?_)
  exact lpX5_worthOf_4 i ly X I hr hlk hN hz hly hi  (ly + 1) 0 0 (by omega) (by omega) rfl ls (lv_sub hl [2, 3, 1, 0] rfl)
end
section
variable {l : Launch} {g : wG} {α : Nat → Nat} {N : Nat} {σ : wS} {p : Program} {e : Env} {s : State} {m : MethodId} {args : Array Value} {below : List Frame} {meth : Method} {c : Code}
set_option maxHeartbeats 4000000 in
set_option maxRecDepth 100000 in
theorem ctX5_about (l : Launch) (g : wG) (α : Nat → Nat) (N : Nat) (σ : wS) (sz : Nat) (a b : Int32) (n ly : Nat) (hn : σ.1 14 7 = nI n) (hn10 : n ≤ 10) (hN : 32 ≤ N) (hz : σ.1 14 4 = nI ly) (hly : ly ≤ 6) : Met l yX5_about (wM yX5_about cX5_about 3 (some FieldType.int)) ({ frames := 2, cells := 0, slots := 0, locals := 43 } : Room) (wPs g α N sz σ [.ref (α 14), .int a, .int b]) (va_Qi (fun r τ => r = spq n a (-1) (fun i => abF (σ.1 18 i) (σ.1 19 i) (σ.1 20 i) (smI (fun k => σ.1 23 (6 * i + k)) ly) (σ.1 21 i) (σ.1 22 i) (smI (fun k => σ.1 23 (6 * i + k) * σ.1 17 k) ly) b) ∧ τ = wu σ 14 0 0) (wB g α N) (wA α N sz)) 0 0 (wA α N sz) := by
  refine w_enter (by decide) (Nat.le_of_ble_eq_true rfl) (fun p e s m args below meth c hsz X I hr hlk ls hl => ?_)
  have hA : ∀ q, s.heap.size ≤ q → wA α N sz q := fun q h => Or.inr (by omega)
  have hx := X.1.1
  have hb := X.1.2.1
  have hl : lv_has ls 3 [(0, .ref (α 14)), (1, .int a), (2, .int b)] := hl
  refine lv_aload_n hx hb dX5_about_0 rfl (lv_at hl 0 rfl) ?_
  refine lv_iconst (v := 0) hx hb dX5_about_1 (by decide) ?_
  refine fp5_0 X I (by omega) kfX5_66 dX5_about_2 (fun H locs I => ?_)
  refine lv_aload_n hx hb dX5_about_5 rfl (lv_at hl 0 rfl) ?_
  refine lv_iload_n hx hb dX5_about_6 rfl (lv_at hl 1 rfl) ?_
  refine w_vSi X I 14 (by omega) rfl rfl (As := [.int a]) (rest := []) (ctX5_isShip l g α N (wu σ 14 0 0) a n hN hn) (wM_V kmX5_82 ki_X5_isShip ks_X5_isShip kn_X5 kc_X5_isShip) rfl rfl (n := 1) (by decide +kernel) rfl ⟨by decide, by decide⟩ hl.1 rfl (Nat.le_of_ble_eq_true rfl) ⟨Nat.zero_le _, Nat.zero_le _⟩ dX5_about_7 (fun r_7 q_7 => ?_)
  by_cases p_7 : ¬ a < 0 ∧ ¬ nI n - 1 < a
  ·
    obtain rfl : r_7 = 1 := Eq.trans q_7 (if_pos p_7)
    obtain ⟨k, hk, rfl⟩ := m1_ok (n := n) (by omega) p_7
    refine lv_if_ne (tgt := 15) hx hb dX5_about_10 (by decide) (fun _ => ?_) (fun cc => absurd cc (by decide))
    refine lv_iload_n hx hb dX5_about_15 rfl (lv_at hl 2 rfl) ?_
    rcases sw7 b with rfl | rfl | rfl | rfl | rfl | rfl | rfl | hsw
    ·
      refine lv_tableIn (tgt := 60) (off := 44) hx hb dX5_about_16 (by decide) (by decide) rfl (by decide) ?_
      refine lv_aload_n hx hb dX5_about_60 rfl (lv_at hl 0 rfl) ?_
      refine fg5_8 X I (by omega) kfX5_19 dX5_about_61 ?_
      refine lv_iload_n hx hb dX5_about_64 rfl (lv_at hl 1 rfl) ?_
      refine w_ld X I 18 (by omega) (n := 10) (k := k) (fun _ _ _ => rfl) rfl (by omega) (by decide) dX5_about_65 ?_
      refine w_eqi (y := σ.1 18 k) (wu_o (by decide)) ?_
      exact w_iret X I hr hlk (⟨by first | exact (spq_bad hbad).symm | (rw [spq_ok hk (by omega)]; simp [abF]; done) | (rw [spq_ok hk (by omega)]; simp [abF, hsw]; done), rfl⟩) dX5_about_66
    ·
      refine lv_tableIn (tgt := 67) (off := 51) hx hb dX5_about_16 (by decide) (by decide) rfl (by decide) ?_
      refine lv_aload_n hx hb dX5_about_67 rfl (lv_at hl 0 rfl) ?_
      refine fg5_9 X I (by omega) kfX5_22 dX5_about_68 ?_
      refine lv_iload_n hx hb dX5_about_71 rfl (lv_at hl 1 rfl) ?_
      refine w_ld X I 19 (by omega) (n := 10) (k := k) (fun _ _ _ => rfl) rfl (by omega) (by decide) dX5_about_72 ?_
      refine w_eqi (y := σ.1 19 k) (wu_o (by decide)) ?_
      exact w_iret X I hr hlk (⟨by first | exact (spq_bad hbad).symm | (rw [spq_ok hk (by omega)]; simp [abF]; done) | (rw [spq_ok hk (by omega)]; simp [abF, hsw]; done), rfl⟩) dX5_about_73
    ·
      refine lv_tableIn (tgt := 74) (off := 58) hx hb dX5_about_16 (by decide) (by decide) rfl (by decide) ?_
      refine lv_aload_n hx hb dX5_about_74 rfl (lv_at hl 0 rfl) ?_
      refine fg5_10 X I (by omega) kfX5_25 dX5_about_75 ?_
      refine lv_iload_n hx hb dX5_about_78 rfl (lv_at hl 1 rfl) ?_
      refine w_ld X I 20 (by omega) (n := 10) (k := k) (fun _ _ _ => rfl) rfl (by omega) (by decide) dX5_about_79 ?_
      refine w_eqi (y := σ.1 20 k) (wu_o (by decide)) ?_
      exact w_iret X I hr hlk (⟨by first | exact (spq_bad hbad).symm | (rw [spq_ok hk (by omega)]; simp [abF]; done) | (rw [spq_ok hk (by omega)]; simp [abF, hsw]; done), rfl⟩) dX5_about_80
    ·
      refine lv_tableIn (tgt := 81) (off := 65) hx hb dX5_about_16 (by decide) (by decide) rfl (by decide) ?_
      refine lv_aload_n hx hb dX5_about_81 rfl (lv_at hl 0 rfl) ?_
      refine lv_iload_n hx hb dX5_about_82 rfl (lv_at hl 1 rfl) ?_
      refine w_vSi X I 14 (by omega) rfl rfl (As := [.int (nI k)]) (rest := []) (ctX5_tonsOf l g α N (wu σ 14 0 0) k ly hN hz hly (by omega)) (wM_V kmX5_111 ki_X5_tonsOf ks_X5_tonsOf kn_X5 kc_X5_tonsOf) rfl rfl (n := 1) (by decide +kernel) rfl ⟨by decide, by decide⟩ hl.1 rfl (Nat.le_of_ble_eq_true rfl) ⟨Nat.zero_le _, Nat.zero_le _⟩ dX5_about_83 (fun r_83 q_83 => ?_)
      replace q_83 : r_83 = smI (fun j => σ.1 23 (6 * k + j)) ly := q_83
      subst q_83
      exact w_iret X I hr hlk (⟨by first | exact (spq_bad hbad).symm | (rw [spq_ok hk (by omega)]; simp [abF]; done) | (rw [spq_ok hk (by omega)]; simp [abF, hsw]; done), rfl⟩) dX5_about_86
    ·
      refine lv_tableIn (tgt := 87) (off := 71) hx hb dX5_about_16 (by decide) (by decide) rfl (by decide) ?_
      refine lv_aload_n hx hb dX5_about_87 rfl (lv_at hl 0 rfl) ?_
      refine fg5_11 X I (by omega) kfX5_28 dX5_about_88 ?_
      refine lv_iload_n hx hb dX5_about_91 rfl (lv_at hl 1 rfl) ?_
      refine w_ld X I 21 (by omega) (n := 10) (k := k) (fun _ _ _ => rfl) rfl (by omega) (by decide) dX5_about_92 ?_
      refine w_eqi (y := σ.1 21 k) (wu_o (by decide)) ?_
      exact w_iret X I hr hlk (⟨by first | exact (spq_bad hbad).symm | (rw [spq_ok hk (by omega)]; simp [abF]; done) | (rw [spq_ok hk (by omega)]; simp [abF, hsw]; done), rfl⟩) dX5_about_93
    ·
      refine lv_tableIn (tgt := 94) (off := 78) hx hb dX5_about_16 (by decide) (by decide) rfl (by decide) ?_
      refine lv_aload_n hx hb dX5_about_94 rfl (lv_at hl 0 rfl) ?_
      refine fg5_12 X I (by omega) kfX5_31 dX5_about_95 ?_
      refine lv_iload_n hx hb dX5_about_98 rfl (lv_at hl 1 rfl) ?_
      refine w_ld X I 22 (by omega) (n := 10) (k := k) (fun _ _ _ => rfl) rfl (by omega) (by decide) dX5_about_99 ?_
      refine w_eqi (y := σ.1 22 k) (wu_o (by decide)) ?_
      exact w_iret X I hr hlk (⟨by first | exact (spq_bad hbad).symm | (rw [spq_ok hk (by omega)]; simp [abF]; done) | (rw [spq_ok hk (by omega)]; simp [abF, hsw]; done), rfl⟩) dX5_about_100
    ·
      refine lv_tableIn (tgt := 101) (off := 85) hx hb dX5_about_16 (by decide) (by decide) rfl (by decide) ?_
      refine lv_aload_n hx hb dX5_about_101 rfl (lv_at hl 0 rfl) ?_
      refine lv_iload_n hx hb dX5_about_102 rfl (lv_at hl 1 rfl) ?_
      refine w_vSi X I 14 (by omega) rfl rfl (As := [.int (nI k)]) (rest := []) (ctX5_worthOf l g α N (wu σ 14 0 0) k ly hN hz hly (by omega)) (wM_V kmX5_114 ki_X5_worthOf ks_X5_worthOf kn_X5 kc_X5_worthOf) rfl rfl (n := 1) (by decide +kernel) rfl ⟨by decide, by decide⟩ hl.1 rfl (Nat.le_of_ble_eq_true rfl) ⟨Nat.zero_le _, Nat.zero_le _⟩ dX5_about_103 (fun r_103 q_103 => ?_)
      replace q_103 : r_103 = smI (fun j => σ.1 23 (6 * k + j) * σ.1 17 j) ly := q_103
      subst q_103
      exact w_iret X I hr hlk (⟨by first | exact (spq_bad hbad).symm | (rw [spq_ok hk (by omega)]; simp [abF]; done) | (rw [spq_ok hk (by omega)]; simp [abF, hsw]; done), rfl⟩) dX5_about_106
    ·
      refine lv_tableOut (tgt := 107) hx hb dX5_about_16 hsw.1 (by decide) ?_
      refine lv_iconst (v := (-1)) hx hb dX5_about_107 (by decide) ?_
      exact w_iret X I hr hlk (⟨by first | exact (spq_bad hbad).symm | (rw [spq_ok hk (by omega)]; simp [abF]; done) | (rw [spq_ok hk (by omega)]; simp [abF, hsw]; done), rfl⟩) dX5_about_108
  ·
    obtain rfl : r_7 = 0 := Eq.trans q_7 (if_neg p_7)
    have hbad := m1_bad (n := n) (by omega) p_7
    refine lv_if_ne (tgt := 15) hx hb dX5_about_10 (by decide) (fun cc => absurd cc (by decide)) (fun _ => ?_)
    refine lv_iconst (v := (-1)) hx hb dX5_about_13 (by decide) ?_
    exact w_iret X I hr hlk (⟨by first | exact (spq_bad hbad).symm | (rw [spq_ok hk (by omega)]; simp [abF]; done) | (rw [spq_ok hk (by omega)]; simp [abF, hsw]; done), rfl⟩) dX5_about_14
end
section
variable {l : Launch} {g : wG} {α : Nat → Nat} {N : Nat} {σ : wS} {p : Program} {e : Env} {s : State} {m : MethodId} {args : Array Value} {below : List Frame} {meth : Method} {c : Code}
set_option maxHeartbeats 4000000 in
set_option maxRecDepth 100000 in
theorem lpX5_sample_36 {sz : Nat} (a b : Int32) (n ly : Nat) (X : wX p s m args c cX5_sample 8 RX5 g) (hsz : s.heap.size = sz) (hr : meth.sig.returnType = (some FieldType.int)) (hlk : meth.locks = false) (hn : σ.1 14 7 = nI n) (hn10 : n ≤ 10) (hN : 32 ≤ N) (hz : σ.1 14 4 = nI ly) (hly : ly ≤ 6) : ∀ (fu : Nat) (k : Nat) (j : Nat) (ah : Int32) (su : Int32) (ta : Int32), ly + 1 ≤ j + fu → k < n → j ≤ ly → a = nI k → ¬ b < 1 ∧ ¬ 9 < b → ah = smI (fun l => σ.1 23 (6 * k + l)) j → su = smI (fun j => smN (fun l => σ.1 23 (6 * k + l)) b j * σ.1 17 j) j → ta = smI (smN (fun l => σ.1 23 (6 * k + l)) b) j → ∀ (H : Heap) (locs : List Loc), wI g α N (wA α N sz) s.heap H locs (wu σ 14 0 0) → ∀ ls : Array Slot, lv_has ls 8 [(0, .ref (α 14)), (1, .int (nI k)), (2, .int b), (3, .int ah), (4, .int su), (5, .int ta), (6, .int (nI j))] → W p l e ({ frames := 2, cells := 0, slots := 0, locals := 43 } : Room) s m args below meth c H locs 0 0 (MQ below (va_Qi (fun r τ => r = spq n a (-1) (fun k => if ¬ b < 1 ∧ ¬ 9 < b then smpF (fun l => σ.1 23 (6 * k + l)) (σ.1 17) b ly else (-1)) ∧ τ = wu σ 14 0 0) (wB g α N) (wA α N sz)) args s 0 0 (wA α N sz)) (F0 m 36 ls []) := by
  have hA : ∀ q, s.heap.size ≤ q → wA α N sz q := fun q h => Or.inr (by omega)
  have hx := X.1.1
  have hb := X.1.2.1
  intro fu
  induction fu with
  | zero =>
    intro k j ah su ta hfu hk hj hka hbb h1 h2 h3
    exact absurd hfu (by omega)
  | succ fu ih =>
    intro k j ah su ta hfu hk hj hka hbb h1 h2 h3 H locs I ls hl
    have hb0 : ¬ b = 0 := fun z => hbb.1 (by rw [z]; decide)
    refine lv_iload hx hb dX5_sample_36 (lv_at hl 6 rfl) ?_
    refine lv_aload_n hx hb dX5_sample_38 rfl (lv_at hl 0 rfl) ?_
    refine fg5_4 X I (by omega) kfX5_73 dX5_sample_39 ?_
    refine w_eqi (y := nI ly) hz ?_
    refine lv_icmp_ge (tgt := 110) hx hb dX5_sample_42 (by decide) (fun c_42 => ?_) (fun c_42 => ?_)
    ·
      have e : j = ly := by have := nI_le' c_42 (by omega) (by omega); omega
      refine lv_iload hx hb dX5_sample_110 (lv_at hl 5 rfl) ?_
      refine lv_if_ne (tgt := 120) hx hb dX5_sample_112 (by decide) (fun c_112 => ?_) (fun c_112 => ?_)
      ·
        refine lv_iload hx hb dX5_sample_120 (lv_at hl 4 rfl) ?_
        refine lv_iload hx hb dX5_sample_122 (lv_at hl 5 rfl) ?_
        refine lv_idiv hx hb dX5_sample_124 c_112 ?_
        exact w_iret X I hr hlk (⟨by first | exact (spq_bad hbad).symm | (rw [spq_ok hk (by omega), if_neg p_17]; done) | (subst e; subst h2; subst h3; rw [hka, spq_ok hk (by omega), if_pos hbb]; first | exact (if_pos c_112).symm | exact (if_neg c_112).symm), rfl⟩) dX5_sample_125
      ·
        refine lv_bipush (v := (-9)) hx hb dX5_sample_115 (by decide) ?_
        refine lv_goto (tgt := 125) hx hb dX5_sample_117 (by decide) ?_
        exact w_iret X I hr hlk (⟨by first | exact (spq_bad hbad).symm | (rw [spq_ok hk (by omega), if_neg p_17]; done) | (subst e; subst h2; subst h3; rw [hka, spq_ok hk (by omega), if_pos hbb]; first | exact (if_pos c_112).symm | exact (if_neg c_112).symm), rfl⟩) dX5_sample_125
    ·
      have hlt : j < ly := by
        rcases Nat.lt_or_ge j ly with q | q
        · exact q
        · exact absurd (nI_le q (by omega)) c_42
      refine lv_iload_n hx hb dX5_sample_45 rfl (lv_at hl 3 rfl) ?_
      refine lv_aload_n hx hb dX5_sample_46 rfl (lv_at hl 0 rfl) ?_
      refine fg5_13 X I (by omega) kfX5_34 dX5_sample_47 ?_
      refine lv_bipush (v := 6) hx hb dX5_sample_50 (by decide) ?_
      refine lv_iload_n hx hb dX5_sample_52 rfl (lv_at hl 1 rfl) ?_
      refine lv_imul hx hb dX5_sample_53 ?_
      refine w_eqi (y := nI (6 * k)) (pk_mul 6 _) ?_
      refine lv_iload hx hb dX5_sample_54 (lv_at hl 6 rfl) ?_
      refine lv_iadd hx hb dX5_sample_56 ?_
      refine w_eqi (y := nI (6 * k + j)) (nI_add _ _) ?_
      refine w_ld X I 23 (by omega) (n := 60) (k := 6 * k + j) (fun _ _ _ => rfl) rfl (by omega) (by decide) dX5_sample_57 ?_
      refine lv_iadd hx hb dX5_sample_58 ?_
      refine lv_iload_n hx hb dX5_sample_59 rfl (lv_at hl 2 rfl) ?_
      refine lv_idiv hx hb dX5_sample_60 hb0 ?_
      refine lv_iload_n hx hb dX5_sample_61 rfl (lv_at hl 3 rfl) ?_
      refine lv_iload_n hx hb dX5_sample_62 rfl (lv_at hl 2 rfl) ?_
      refine lv_idiv hx hb dX5_sample_63 hb0 ?_
      refine lv_isub hx hb dX5_sample_64 ?_
      refine lv_istore (lv' := [(7, .int (((ah + ((wu σ 14 0 0).1 23 (6 * k + j))) / b) - (ah / b))), (0, .ref (α 14)), (1, .int (nI k)), (2, .int b), (3, .int ah), (4, .int su), (5, .int ta), (6, .int (nI j))]) hx hb dX5_sample_65 hl (by decide) rfl (fun ls hl => ?_)
      refine lv_iload_n hx hb dX5_sample_67 rfl (lv_at hl 4 rfl) ?_
      refine lv_aload_n hx hb dX5_sample_68 rfl (lv_at hl 1 rfl) ?_
      refine fg5_13 X I (by omega) kfX5_34 dX5_sample_69 ?_
      refine lv_bipush (v := 6) hx hb dX5_sample_72 (by decide) ?_
      refine lv_iload_n hx hb dX5_sample_74 rfl (lv_at hl 2 rfl) ?_
      refine lv_imul hx hb dX5_sample_75 ?_
      refine w_eqi (y := nI (6 * k)) (pk_mul 6 _) ?_
      refine lv_iload hx hb dX5_sample_76 (lv_at hl 7 rfl) ?_
      refine lv_iadd hx hb dX5_sample_78 ?_
      refine w_eqi (y := nI (6 * k + j)) (nI_add _ _) ?_
      refine w_ld X I 23 (by omega) (n := 60) (k := 6 * k + j) (fun _ _ _ => rfl) rfl (by omega) (by decide) dX5_sample_79 ?_
      refine lv_iadd hx hb dX5_sample_80 ?_
      refine lv_istore_n (lv' := [(3, .int (ah + ((wu σ 14 0 0).1 23 (6 * k + j)))), (7, .int (((ah + ((wu σ 14 0 0).1 23 (6 * k + j))) / b) - (ah / b))), (0, .ref (α 14)), (1, .int (nI k)), (2, .int b), (4, .int su), (5, .int ta), (6, .int (nI j))]) hx hb dX5_sample_81 rfl hl (by decide) rfl (fun ls hl => ?_)
      refine lv_iload hx hb dX5_sample_82 (lv_at hl 5 rfl) ?_
      refine lv_iload hx hb dX5_sample_84 (lv_at hl 1 rfl) ?_
      refine lv_aload_n hx hb dX5_sample_86 rfl (lv_at hl 2 rfl) ?_
      refine fg5_6 X I (by omega) kfX5_16 dX5_sample_87 ?_
      refine lv_iload hx hb dX5_sample_90 (lv_at hl 7 rfl) ?_
      refine w_ld X I 17 (by omega) (n := 6) (k := j) (fun _ _ _ => rfl) rfl (by omega) (by decide) dX5_sample_92 ?_
      refine lv_imul hx hb dX5_sample_93 ?_
      refine lv_iadd hx hb dX5_sample_94 ?_
      refine lv_istore (lv' := [(4, .int (su + ((((ah + ((wu σ 14 0 0).1 23 (6 * k + j))) / b) - (ah / b)) * ((wu σ 14 0 0).1 17 j)))), (3, .int (ah + ((wu σ 14 0 0).1 23 (6 * k + j)))), (7, .int (((ah + ((wu σ 14 0 0).1 23 (6 * k + j))) / b) - (ah / b))), (0, .ref (α 14)), (1, .int (nI k)), (2, .int b), (5, .int ta), (6, .int (nI j))]) hx hb dX5_sample_95 hl (by decide) rfl (fun ls hl => ?_)
      refine lv_iload hx hb dX5_sample_97 (lv_at hl 6 rfl) ?_
      refine lv_iload hx hb dX5_sample_99 (lv_at hl 2 rfl) ?_
      refine lv_iadd hx hb dX5_sample_101 ?_
      refine lv_istore (lv' := [(5, .int (ta + (((ah + ((wu σ 14 0 0).1 23 (6 * k + j))) / b) - (ah / b)))), (4, .int (su + ((((ah + ((wu σ 14 0 0).1 23 (6 * k + j))) / b) - (ah / b)) * ((wu σ 14 0 0).1 17 j)))), (3, .int (ah + ((wu σ 14 0 0).1 23 (6 * k + j)))), (7, .int (((ah + ((wu σ 14 0 0).1 23 (6 * k + j))) / b) - (ah / b))), (0, .ref (α 14)), (1, .int (nI k)), (2, .int b), (6, .int (nI j))]) hx hb dX5_sample_102 hl (by decide) rfl (fun ls hl => ?_)
      refine lv_iinc (v := nI (j + 1)) (lv' := [(6, .int (nI (j + 1))), (5, .int (ta + (((ah + ((wu σ 14 0 0).1 23 (6 * k + j))) / b) - (ah / b)))), (4, .int (su + ((((ah + ((wu σ 14 0 0).1 23 (6 * k + j))) / b) - (ah / b)) * ((wu σ 14 0 0).1 17 j)))), (3, .int (ah + ((wu σ 14 0 0).1 23 (6 * k + j)))), (7, .int (((ah + ((wu σ 14 0 0).1 23 (6 * k + j))) / b) - (ah / b))), (0, .ref (α 14)), (1, .int (nI k)), (2, .int b)]) hx hb dX5_sample_104 hl (k := 7) rfl (nI_1 _) (by decide) rfl (fun ls hl => ?_)
      refine lv_goto (tgt := 36) hx hb dX5_sample_107 (by decide) ?_
      exact ih k (j + 1) (ah + ((wu σ 14 0 0).1 23 (6 * k + j))) (su + ((((ah + ((wu σ 14 0 0).1 23 (6 * k + j))) / b) - (ah / b)) * ((wu σ 14 0 0).1 17 j))) (ta + (((ah + ((wu σ 14 0 0).1 23 (6 * k + j))) / b) - (ah / b))) (by omega) hk (by omega) hka hbb (by rw [h1]; rfl) (by rw [h1, h2]; rfl) (by rw [h1, h3]; rfl) _ _ I ls (lv_sub hl [5, 6, 7, 3, 2, 1, 0] rfl)
set_option maxHeartbeats 4000000 in
set_option maxRecDepth 100000 in
theorem ctX5_sample (l : Launch) (g : wG) (α : Nat → Nat) (N : Nat) (σ : wS) (sz : Nat) (a b : Int32) (n ly : Nat) (hn : σ.1 14 7 = nI n) (hn10 : n ≤ 10) (hN : 32 ≤ N) (hz : σ.1 14 4 = nI ly) (hly : ly ≤ 6) : Met l yX5_sample (wM yX5_sample cX5_sample 8 (some FieldType.int)) ({ frames := 2, cells := 0, slots := 0, locals := 43 } : Room) (wPs g α N sz σ [.ref (α 14), .int a, .int b]) (va_Qi (fun r τ => r = spq n a (-1) (fun k => if ¬ b < 1 ∧ ¬ 9 < b then smpF (fun l => σ.1 23 (6 * k + l)) (σ.1 17) b ly else (-1)) ∧ τ = wu σ 14 0 0) (wB g α N) (wA α N sz)) 0 0 (wA α N sz) := by
  refine w_enter (by decide) (Nat.le_of_ble_eq_true rfl) (fun p e s m args below meth c hsz X I hr hlk ls hl => ?_)
  have hA : ∀ q, s.heap.size ≤ q → wA α N sz q := fun q h => Or.inr (by omega)
  have hx := X.1.1
  have hb := X.1.2.1
  have hl : lv_has ls 8 [(0, .ref (α 14)), (1, .int a), (2, .int b)] := hl
  refine lv_aload_n hx hb dX5_sample_0 rfl (lv_at hl 0 rfl) ?_
  refine lv_iconst (v := 0) hx hb dX5_sample_1 (by decide) ?_
  refine fp5_0 X I (by omega) kfX5_66 dX5_sample_2 (fun H locs I => ?_)
  refine lv_aload_n hx hb dX5_sample_5 rfl (lv_at hl 0 rfl) ?_
  refine lv_iload_n hx hb dX5_sample_6 rfl (lv_at hl 1 rfl) ?_
  refine w_vSi X I 14 (by omega) rfl rfl (As := [.int a]) (rest := []) (ctX5_isShip l g α N (wu σ 14 0 0) a n hN hn) (wM_V kmX5_82 ki_X5_isShip ks_X5_isShip kn_X5 kc_X5_isShip) rfl rfl (n := 1) (by decide +kernel) rfl ⟨by decide, by decide⟩ hl.1 rfl (Nat.le_of_ble_eq_true rfl) ⟨Nat.zero_le _, Nat.zero_le _⟩ dX5_sample_7 (fun r_7 q_7 => ?_)
  by_cases p_7 : ¬ a < 0 ∧ ¬ nI n - 1 < a
  ·
    obtain rfl : r_7 = 1 := Eq.trans q_7 (if_pos p_7)
    obtain ⟨k, hk, rfl⟩ := m1_ok (n := n) (by omega) p_7
    refine lv_if_eq (tgt := 23) hx hb dX5_sample_10 (by decide) (fun cc => absurd cc (by decide)) (fun _ => ?_)
    refine lv_iload_n hx hb dX5_sample_13 rfl (lv_at hl 2 rfl) ?_
    refine lv_iconst (v := 1) hx hb dX5_sample_14 (by decide) ?_
    refine lv_bipush (v := 9) hx hb dX5_sample_15 (by decide) ?_
    refine w_sSi X I (As := [.int b, .int 1, .int 9]) (rest := []) (ctX5_in l g α N (wu σ 14 0 0) _ _ _ ) (wM_S kmX5_69 kt_X5_in kn_X5 kc_X5_in) rfl rfl (n := 3) (by decide +kernel) rfl ⟨by decide, by decide⟩ hl.1 rfl (Nat.le_of_ble_eq_true rfl) ⟨Nat.zero_le _, Nat.zero_le _⟩ dX5_sample_17 (fun r_17 q_17 => ?_)
    by_cases p_17 : ¬ b < 1 ∧ ¬ 9 < b
    ·
      obtain rfl : r_17 = 1 := Eq.trans q_17 (if_pos p_17)
      refine lv_if_ne (tgt := 25) hx hb dX5_sample_20 (by decide) (fun _ => ?_) (fun cc => absurd cc (by decide))
      refine lv_iconst (v := 0) hx hb dX5_sample_25 (by decide) ?_
      refine lv_istore_n (lv' := [(3, .int 0), (0, .ref (α 14)), (1, .int (nI k)), (2, .int b)]) hx hb dX5_sample_26 rfl hl (by decide) rfl (fun ls hl => ?_)
      refine lv_iconst (v := 0) hx hb dX5_sample_27 (by decide) ?_
      refine lv_istore (lv' := [(4, .int 0), (3, .int 0), (0, .ref (α 14)), (1, .int (nI k)), (2, .int b)]) hx hb dX5_sample_28 hl (by decide) rfl (fun ls hl => ?_)
      refine lv_iconst (v := 0) hx hb dX5_sample_30 (by decide) ?_
      refine lv_istore (lv' := [(5, .int 0), (4, .int 0), (3, .int 0), (0, .ref (α 14)), (1, .int (nI k)), (2, .int b)]) hx hb dX5_sample_31 hl (by decide) rfl (fun ls hl => ?_)
      refine lv_iconst (v := 0) hx hb dX5_sample_33 (by decide) ?_
      refine lv_istore (lv' := [(6, .int 0), (5, .int 0), (4, .int 0), (3, .int 0), (0, .ref (α 14)), (1, .int (nI k)), (2, .int b)]) hx hb dX5_sample_34 hl (by decide) rfl (fun ls hl => ?_)
      exact lpX5_sample_36 (nI k) b n ly X hsz hr hlk hn hn10 hN hz hly  (ly + 1) k 0 0 0 0 (by omega) hk (by omega) rfl p_17 rfl rfl rfl _ _ I ls (lv_sub hl [4, 5, 6, 3, 2, 1, 0] rfl)
    ·
      obtain rfl : r_17 = 0 := Eq.trans q_17 (if_neg p_17)
      refine lv_if_ne (tgt := 25) hx hb dX5_sample_20 (by decide) (fun cc => absurd cc (by decide)) (fun _ => ?_)
      refine lv_iconst (v := (-1)) hx hb dX5_sample_23 (by decide) ?_
      exact w_iret X I hr hlk (⟨by first | exact (spq_bad hbad).symm | (rw [spq_ok hk (by omega), if_neg p_17]; done) | (subst e; subst h2; subst h3; rw [hka, spq_ok hk (by omega), if_pos hbb]; first | exact (if_pos c_112).symm | exact (if_neg c_112).symm), rfl⟩) dX5_sample_24
  ·
    obtain rfl : r_7 = 0 := Eq.trans q_7 (if_neg p_7)
    have hbad := m1_bad (n := n) (by omega) p_7
    refine lv_if_eq (tgt := 23) hx hb dX5_sample_10 (by decide) (fun _ => ?_) (fun cc => absurd cc (by decide))
    refine lv_iconst (v := (-1)) hx hb dX5_sample_23 (by decide) ?_
    exact w_iret X I hr hlk (⟨by first | exact (spq_bad hbad).symm | (rw [spq_ok hk (by omega), if_neg p_17]; done) | (subst e; subst h2; subst h3; rw [hka, spq_ok hk (by omega), if_pos hbb]; first | exact (if_pos c_112).symm | exact (if_neg c_112).symm), rfl⟩) dX5_sample_24
end
section
variable {l : Launch} {g : wG} {α : Nat → Nat} {N : Nat} {σ : wS} {p : Program} {e : Env} {s : State} {m : MethodId} {args : Array Value} {below : List Frame} {meth : Method} {c : Code}
set_option maxHeartbeats 4000000 in
set_option maxRecDepth 100000 in
theorem ctX5_counts (l : Launch) (g : wG) (α : Nat → Nat) (N : Nat) (σ : wS) (i j : Nat) (hN : 32 ≤ N) (hi : i < 10) (hj : j ≤ 200) (hge : σ.1 24 (201 * i + j) = (-1) ∨ ¬ σ.1 24 (201 * i + j) < 0) : Met l yX5_counts (wM yX5_counts cX5_counts 4 (some FieldType.boolean)) ({ frames := 0, cells := 0, slots := 0, locals := 0 } : Room) (wPc g α N σ [.ref (α 14), .int (nI i), .int (nI j)]) (vp_Si (fun r => r = if cnP (fun l => σ.1 29 (6 * i + l)) (σ.1 15) (fun l => σ.1 24 (201 * i + l)) j then 1 else 0)) 0 0 (fun _ => False) := by
  refine w_enterS (by decide) (Nat.le_of_ble_eq_true rfl) (fun p e s m args below meth c X I hr hlk ls hl => ?_)
  have hx := X.1.1
  have hb := X.1.2.1
  have hl : lv_has ls 4 [(0, .ref (α 14)), (1, .int (nI i)), (2, .int (nI j))] := hl
  have hlt0 : σ.1 24 (201 * i + j) < 0 ↔ σ.1 24 (201 * i + j) = (-1) := ⟨fun z => hge.elim id (fun w => absurd z w), fun z => by rw [z]; decide⟩
  refine lv_aload_n hx hb dX5_counts_0 rfl (lv_at hl 0 rfl) ?_
  refine fg5_22 X I (by omega) kfX5_56 dX5_counts_1 ?_
  refine lv_bipush (v := 6) hx hb dX5_counts_4 (by decide) ?_
  refine lv_iload_n hx hb dX5_counts_6 rfl (lv_at hl 1 rfl) ?_
  refine lv_imul hx hb dX5_counts_7 ?_
  refine w_eqi (y := nI (6 * i)) (pk_mul 6 _) ?_
  refine lv_iconst (v := 3) hx hb dX5_counts_8 (by decide) ?_
  refine lv_iadd hx hb dX5_counts_9 ?_
  refine w_eqi (y := nI (6 * i + 3)) (nI_add _ 3) ?_
  refine w_ld X I 29 (by omega) (n := 60) (k := 6 * i + 3) (fun _ _ _ => rfl) rfl (by omega) (by decide) dX5_counts_10 ?_
  refine lv_iconst (v := 1) hx hb dX5_counts_11 (by decide) ?_
  refine lv_icmp_ne (tgt := 25) hx hb dX5_counts_12 (by decide) (fun c_12 => ?_) (fun c_12 => ?_)
  ·
    refine lv_aload_n hx hb dX5_counts_25 rfl (lv_at hl 0 rfl) ?_
    refine fg5_22 X I (by omega) kfX5_56 dX5_counts_26 ?_
    refine lv_bipush (v := 6) hx hb dX5_counts_29 (by decide) ?_
    refine lv_iload_n hx hb dX5_counts_31 rfl (lv_at hl 1 rfl) ?_
    refine lv_imul hx hb dX5_counts_32 ?_
    refine w_eqi (y := nI (6 * i)) (pk_mul 6 _) ?_
    refine lv_iconst (v := 4) hx hb dX5_counts_33 (by decide) ?_
    refine lv_iadd hx hb dX5_counts_34 ?_
    refine w_eqi (y := nI (6 * i + 4)) (nI_add _ 4) ?_
    refine w_ld X I 29 (by omega) (n := 60) (k := 6 * i + 4) (fun _ _ _ => rfl) rfl (by omega) (by decide) dX5_counts_35 ?_
    refine lv_iconst (v := 1) hx hb dX5_counts_36 (by decide) ?_
    refine lv_icmp_ne (tgt := 49) hx hb dX5_counts_37 (by decide) (fun c_37 => ?_) (fun c_37 => ?_)
    ·
      refine lv_aload_n hx hb dX5_counts_49 rfl (lv_at hl 0 rfl) ?_
      refine fg5_22 X I (by omega) kfX5_56 dX5_counts_50 ?_
      refine lv_bipush (v := 6) hx hb dX5_counts_53 (by decide) ?_
      refine lv_iload_n hx hb dX5_counts_55 rfl (lv_at hl 1 rfl) ?_
      refine lv_imul hx hb dX5_counts_56 ?_
      refine w_eqi (y := nI (6 * i)) (pk_mul 6 _) ?_
      refine lv_iconst (v := 5) hx hb dX5_counts_57 (by decide) ?_
      refine lv_iadd hx hb dX5_counts_58 ?_
      refine w_eqi (y := nI (6 * i + 5)) (nI_add _ 5) ?_
      refine w_ld X I 29 (by omega) (n := 60) (k := 6 * i + 5) (fun _ _ _ => rfl) rfl (by omega) (by decide) dX5_counts_59 ?_
      refine lv_iconst (v := 1) hx hb dX5_counts_60 (by decide) ?_
      refine lv_icmp_ne (tgt := 83) hx hb dX5_counts_61 (by decide) (fun c_61 => ?_) (fun c_61 => ?_)
      ·
        refine lv_iconst (v := 0) hx hb dX5_counts_83 (by decide) ?_
        refine lv_istore_n (lv' := [(3, .int 0), (0, .ref (α 14)), (1, .int (nI i)), (2, .int (nI j))]) hx hb dX5_counts_84 rfl hl (by decide) rfl (fun ls hl => ?_)
        refine lv_iload_n hx hb dX5_counts_85 rfl (lv_at hl 0 rfl) ?_
        refine lv_if_ne (tgt := 93) hx hb dX5_counts_86 (by decide) (fun cc => absurd cc (by decide)) (fun _ => ?_)
        refine lv_iconst (v := 1) hx hb dX5_counts_89 (by decide) ?_
        refine lv_goto (tgt := 94) hx hb dX5_counts_90 (by decide) ?_
        exact w_zretS X hr hlk (Or.inr rfl) (by simp [cnP, c_12, c_37, c_61]) dX5_counts_94
      ·
        refine lv_aload_n hx hb dX5_counts_64 rfl (lv_at hl 0 rfl) ?_
        refine fg5_14 X I (by omega) kfX5_37 dX5_counts_65 ?_
        refine lv_sipush (v := 201) hx hb dX5_counts_68 (by decide) ?_
        refine lv_iload_n hx hb dX5_counts_71 rfl (lv_at hl 1 rfl) ?_
        refine lv_imul hx hb dX5_counts_72 ?_
        refine w_eqi (y := nI (201 * i)) (pk_mul 201 _) ?_
        refine lv_iload_n hx hb dX5_counts_73 rfl (lv_at hl 2 rfl) ?_
        refine lv_iadd hx hb dX5_counts_74 ?_
        refine w_eqi (y := nI (201 * i + j)) (nI_add _ _) ?_
        refine w_ld X I 24 (by omega) (n := 2010) (k := 201 * i + j) (fun _ _ _ => rfl) rfl (by omega) (by decide) dX5_counts_75 ?_
        refine lv_if_ge (tgt := 83) hx hb dX5_counts_76 (by decide) (fun c_76 => ?_) (fun c_76 => ?_)
        ·
          have c_76 : ¬ σ.1 24 (201 * i + j) = (-1) := fun z => absurd (hlt0.mpr z) (Int32.not_lt.mpr c_76)
          refine lv_iconst (v := 0) hx hb dX5_counts_83 (by decide) ?_
          refine lv_istore_n (lv' := [(3, .int 0), (0, .ref (α 14)), (1, .int (nI i)), (2, .int (nI j))]) hx hb dX5_counts_84 rfl hl (by decide) rfl (fun ls hl => ?_)
          refine lv_iload_n hx hb dX5_counts_85 rfl (lv_at hl 0 rfl) ?_
          refine lv_if_ne (tgt := 93) hx hb dX5_counts_86 (by decide) (fun cc => absurd cc (by decide)) (fun _ => ?_)
          refine lv_iconst (v := 1) hx hb dX5_counts_89 (by decide) ?_
          refine lv_goto (tgt := 94) hx hb dX5_counts_90 (by decide) ?_
          exact w_zretS X hr hlk (Or.inr rfl) (by simp [cnP, c_12, c_37, c_61, c_76]) dX5_counts_94
        ·
          have c_76 : σ.1 24 (201 * i + j) = (-1) := hlt0.mp (Int32.not_le.mp c_76)
          refine lv_iconst (v := 1) hx hb dX5_counts_79 (by decide) ?_
          refine lv_goto (tgt := 84) hx hb dX5_counts_80 (by decide) ?_
          refine lv_istore_n (lv' := [(3, .int 1), (0, .ref (α 14)), (1, .int (nI i)), (2, .int (nI j))]) hx hb dX5_counts_84 rfl hl (by decide) rfl (fun ls hl => ?_)
          refine lv_iload_n hx hb dX5_counts_85 rfl (lv_at hl 0 rfl) ?_
          refine lv_if_ne (tgt := 93) hx hb dX5_counts_86 (by decide) (fun _ => ?_) (fun cc => absurd cc (by decide))
          refine lv_iconst (v := 0) hx hb dX5_counts_93 (by decide) ?_
          exact w_zretS X hr hlk (Or.inl rfl) (by simp [cnP, c_12, c_37, c_61, c_76]) dX5_counts_94
    ·
      refine lv_iload_n hx hb dX5_counts_40 rfl (lv_at hl 2 rfl) ?_
      refine lv_bipush (v := 7) hx hb dX5_counts_41 (by decide) ?_
      refine lv_irem hx hb dX5_counts_43 (by decide) ?_
      refine lv_bipush (v := 6) hx hb dX5_counts_44 (by decide) ?_
      refine lv_icmp_eq (tgt := 79) hx hb dX5_counts_46 (by decide) (fun c_46 => ?_) (fun c_46 => ?_)
      ·
        refine lv_iconst (v := 1) hx hb dX5_counts_79 (by decide) ?_
        refine lv_goto (tgt := 84) hx hb dX5_counts_80 (by decide) ?_
        refine lv_istore_n (lv' := [(3, .int 1), (0, .ref (α 14)), (1, .int (nI i)), (2, .int (nI j))]) hx hb dX5_counts_84 rfl hl (by decide) rfl (fun ls hl => ?_)
        refine lv_iload_n hx hb dX5_counts_85 rfl (lv_at hl 0 rfl) ?_
        refine lv_if_ne (tgt := 93) hx hb dX5_counts_86 (by decide) (fun _ => ?_) (fun cc => absurd cc (by decide))
        refine lv_iconst (v := 0) hx hb dX5_counts_93 (by decide) ?_
        exact w_zretS X hr hlk (Or.inl rfl) (by simp [cnP, c_12, c_37, c_46]) dX5_counts_94
      ·
        refine lv_aload_n hx hb dX5_counts_49 rfl (lv_at hl 0 rfl) ?_
        refine fg5_22 X I (by omega) kfX5_56 dX5_counts_50 ?_
        refine lv_bipush (v := 6) hx hb dX5_counts_53 (by decide) ?_
        refine lv_iload_n hx hb dX5_counts_55 rfl (lv_at hl 1 rfl) ?_
        refine lv_imul hx hb dX5_counts_56 ?_
        refine w_eqi (y := nI (6 * i)) (pk_mul 6 _) ?_
        refine lv_iconst (v := 5) hx hb dX5_counts_57 (by decide) ?_
        refine lv_iadd hx hb dX5_counts_58 ?_
        refine w_eqi (y := nI (6 * i + 5)) (nI_add _ 5) ?_
        refine w_ld X I 29 (by omega) (n := 60) (k := 6 * i + 5) (fun _ _ _ => rfl) rfl (by omega) (by decide) dX5_counts_59 ?_
        refine lv_iconst (v := 1) hx hb dX5_counts_60 (by decide) ?_
        refine lv_icmp_ne (tgt := 83) hx hb dX5_counts_61 (by decide) (fun c_61 => ?_) (fun c_61 => ?_)
        ·
          refine lv_iconst (v := 0) hx hb dX5_counts_83 (by decide) ?_
          refine lv_istore_n (lv' := [(3, .int 0), (0, .ref (α 14)), (1, .int (nI i)), (2, .int (nI j))]) hx hb dX5_counts_84 rfl hl (by decide) rfl (fun ls hl => ?_)
          refine lv_iload_n hx hb dX5_counts_85 rfl (lv_at hl 0 rfl) ?_
          refine lv_if_ne (tgt := 93) hx hb dX5_counts_86 (by decide) (fun cc => absurd cc (by decide)) (fun _ => ?_)
          refine lv_iconst (v := 1) hx hb dX5_counts_89 (by decide) ?_
          refine lv_goto (tgt := 94) hx hb dX5_counts_90 (by decide) ?_
          exact w_zretS X hr hlk (Or.inr rfl) (by simp [cnP, c_12, c_37, c_46, c_61]) dX5_counts_94
        ·
          refine lv_aload_n hx hb dX5_counts_64 rfl (lv_at hl 0 rfl) ?_
          refine fg5_14 X I (by omega) kfX5_37 dX5_counts_65 ?_
          refine lv_sipush (v := 201) hx hb dX5_counts_68 (by decide) ?_
          refine lv_iload_n hx hb dX5_counts_71 rfl (lv_at hl 1 rfl) ?_
          refine lv_imul hx hb dX5_counts_72 ?_
          refine w_eqi (y := nI (201 * i)) (pk_mul 201 _) ?_
          refine lv_iload_n hx hb dX5_counts_73 rfl (lv_at hl 2 rfl) ?_
          refine lv_iadd hx hb dX5_counts_74 ?_
          refine w_eqi (y := nI (201 * i + j)) (nI_add _ _) ?_
          refine w_ld X I 24 (by omega) (n := 2010) (k := 201 * i + j) (fun _ _ _ => rfl) rfl (by omega) (by decide) dX5_counts_75 ?_
          refine lv_if_ge (tgt := 83) hx hb dX5_counts_76 (by decide) (fun c_76 => ?_) (fun c_76 => ?_)
          ·
            have c_76 : ¬ σ.1 24 (201 * i + j) = (-1) := fun z => absurd (hlt0.mpr z) (Int32.not_lt.mpr c_76)
            refine lv_iconst (v := 0) hx hb dX5_counts_83 (by decide) ?_
            refine lv_istore_n (lv' := [(3, .int 0), (0, .ref (α 14)), (1, .int (nI i)), (2, .int (nI j))]) hx hb dX5_counts_84 rfl hl (by decide) rfl (fun ls hl => ?_)
            refine lv_iload_n hx hb dX5_counts_85 rfl (lv_at hl 0 rfl) ?_
            refine lv_if_ne (tgt := 93) hx hb dX5_counts_86 (by decide) (fun cc => absurd cc (by decide)) (fun _ => ?_)
            refine lv_iconst (v := 1) hx hb dX5_counts_89 (by decide) ?_
            refine lv_goto (tgt := 94) hx hb dX5_counts_90 (by decide) ?_
            exact w_zretS X hr hlk (Or.inr rfl) (by simp [cnP, c_12, c_37, c_46, c_61, c_76]) dX5_counts_94
          ·
            have c_76 : σ.1 24 (201 * i + j) = (-1) := hlt0.mp (Int32.not_le.mp c_76)
            refine lv_iconst (v := 1) hx hb dX5_counts_79 (by decide) ?_
            refine lv_goto (tgt := 84) hx hb dX5_counts_80 (by decide) ?_
            refine lv_istore_n (lv' := [(3, .int 1), (0, .ref (α 14)), (1, .int (nI i)), (2, .int (nI j))]) hx hb dX5_counts_84 rfl hl (by decide) rfl (fun ls hl => ?_)
            refine lv_iload_n hx hb dX5_counts_85 rfl (lv_at hl 0 rfl) ?_
            refine lv_if_ne (tgt := 93) hx hb dX5_counts_86 (by decide) (fun _ => ?_) (fun cc => absurd cc (by decide))
            refine lv_iconst (v := 0) hx hb dX5_counts_93 (by decide) ?_
            exact w_zretS X hr hlk (Or.inl rfl) (by simp [cnP, c_12, c_37, c_46, c_61, c_76]) dX5_counts_94
  ·
    refine lv_aload_n hx hb dX5_counts_15 rfl (lv_at hl 0 rfl) ?_
    refine fg5_3 X I (by omega) kfX5_7 dX5_counts_16 ?_
    refine lv_iload_n hx hb dX5_counts_19 rfl (lv_at hl 2 rfl) ?_
    refine w_ld X I 15 (by omega) (n := 201) (k := j) (fun _ _ _ => rfl) rfl (by omega) (by decide) dX5_counts_20 ?_
    refine lv_iconst (v := 4) hx hb dX5_counts_21 (by decide) ?_
    refine lv_icmp_gt (tgt := 79) hx hb dX5_counts_22 (by decide) (fun c_22 => ?_) (fun c_22 => ?_)
    ·
      refine lv_iconst (v := 1) hx hb dX5_counts_79 (by decide) ?_
      refine lv_goto (tgt := 84) hx hb dX5_counts_80 (by decide) ?_
      refine lv_istore_n (lv' := [(3, .int 1), (0, .ref (α 14)), (1, .int (nI i)), (2, .int (nI j))]) hx hb dX5_counts_84 rfl hl (by decide) rfl (fun ls hl => ?_)
      refine lv_iload_n hx hb dX5_counts_85 rfl (lv_at hl 0 rfl) ?_
      refine lv_if_ne (tgt := 93) hx hb dX5_counts_86 (by decide) (fun _ => ?_) (fun cc => absurd cc (by decide))
      refine lv_iconst (v := 0) hx hb dX5_counts_93 (by decide) ?_
      exact w_zretS X hr hlk (Or.inl rfl) (by simp [cnP, c_12, c_22]) dX5_counts_94
    ·
      refine lv_aload_n hx hb dX5_counts_25 rfl (lv_at hl 0 rfl) ?_
      refine fg5_22 X I (by omega) kfX5_56 dX5_counts_26 ?_
      refine lv_bipush (v := 6) hx hb dX5_counts_29 (by decide) ?_
      refine lv_iload_n hx hb dX5_counts_31 rfl (lv_at hl 1 rfl) ?_
      refine lv_imul hx hb dX5_counts_32 ?_
      refine w_eqi (y := nI (6 * i)) (pk_mul 6 _) ?_
      refine lv_iconst (v := 4) hx hb dX5_counts_33 (by decide) ?_
      refine lv_iadd hx hb dX5_counts_34 ?_
      refine w_eqi (y := nI (6 * i + 4)) (nI_add _ 4) ?_
      refine w_ld X I 29 (by omega) (n := 60) (k := 6 * i + 4) (fun _ _ _ => rfl) rfl (by omega) (by decide) dX5_counts_35 ?_
      refine lv_iconst (v := 1) hx hb dX5_counts_36 (by decide) ?_
      refine lv_icmp_ne (tgt := 49) hx hb dX5_counts_37 (by decide) (fun c_37 => ?_) (fun c_37 => ?_)
      ·
        refine lv_aload_n hx hb dX5_counts_49 rfl (lv_at hl 0 rfl) ?_
        refine fg5_22 X I (by omega) kfX5_56 dX5_counts_50 ?_
        refine lv_bipush (v := 6) hx hb dX5_counts_53 (by decide) ?_
        refine lv_iload_n hx hb dX5_counts_55 rfl (lv_at hl 1 rfl) ?_
        refine lv_imul hx hb dX5_counts_56 ?_
        refine w_eqi (y := nI (6 * i)) (pk_mul 6 _) ?_
        refine lv_iconst (v := 5) hx hb dX5_counts_57 (by decide) ?_
        refine lv_iadd hx hb dX5_counts_58 ?_
        refine w_eqi (y := nI (6 * i + 5)) (nI_add _ 5) ?_
        refine w_ld X I 29 (by omega) (n := 60) (k := 6 * i + 5) (fun _ _ _ => rfl) rfl (by omega) (by decide) dX5_counts_59 ?_
        refine lv_iconst (v := 1) hx hb dX5_counts_60 (by decide) ?_
        refine lv_icmp_ne (tgt := 83) hx hb dX5_counts_61 (by decide) (fun c_61 => ?_) (fun c_61 => ?_)
        ·
          refine lv_iconst (v := 0) hx hb dX5_counts_83 (by decide) ?_
          refine lv_istore_n (lv' := [(3, .int 0), (0, .ref (α 14)), (1, .int (nI i)), (2, .int (nI j))]) hx hb dX5_counts_84 rfl hl (by decide) rfl (fun ls hl => ?_)
          refine lv_iload_n hx hb dX5_counts_85 rfl (lv_at hl 0 rfl) ?_
          refine lv_if_ne (tgt := 93) hx hb dX5_counts_86 (by decide) (fun cc => absurd cc (by decide)) (fun _ => ?_)
          refine lv_iconst (v := 1) hx hb dX5_counts_89 (by decide) ?_
          refine lv_goto (tgt := 94) hx hb dX5_counts_90 (by decide) ?_
          exact w_zretS X hr hlk (Or.inr rfl) (by simp [cnP, c_12, c_22, c_37, c_61]) dX5_counts_94
        ·
          refine lv_aload_n hx hb dX5_counts_64 rfl (lv_at hl 0 rfl) ?_
          refine fg5_14 X I (by omega) kfX5_37 dX5_counts_65 ?_
          refine lv_sipush (v := 201) hx hb dX5_counts_68 (by decide) ?_
          refine lv_iload_n hx hb dX5_counts_71 rfl (lv_at hl 1 rfl) ?_
          refine lv_imul hx hb dX5_counts_72 ?_
          refine w_eqi (y := nI (201 * i)) (pk_mul 201 _) ?_
          refine lv_iload_n hx hb dX5_counts_73 rfl (lv_at hl 2 rfl) ?_
          refine lv_iadd hx hb dX5_counts_74 ?_
          refine w_eqi (y := nI (201 * i + j)) (nI_add _ _) ?_
          refine w_ld X I 24 (by omega) (n := 2010) (k := 201 * i + j) (fun _ _ _ => rfl) rfl (by omega) (by decide) dX5_counts_75 ?_
          refine lv_if_ge (tgt := 83) hx hb dX5_counts_76 (by decide) (fun c_76 => ?_) (fun c_76 => ?_)
          ·
            have c_76 : ¬ σ.1 24 (201 * i + j) = (-1) := fun z => absurd (hlt0.mpr z) (Int32.not_lt.mpr c_76)
            refine lv_iconst (v := 0) hx hb dX5_counts_83 (by decide) ?_
            refine lv_istore_n (lv' := [(3, .int 0), (0, .ref (α 14)), (1, .int (nI i)), (2, .int (nI j))]) hx hb dX5_counts_84 rfl hl (by decide) rfl (fun ls hl => ?_)
            refine lv_iload_n hx hb dX5_counts_85 rfl (lv_at hl 0 rfl) ?_
            refine lv_if_ne (tgt := 93) hx hb dX5_counts_86 (by decide) (fun cc => absurd cc (by decide)) (fun _ => ?_)
            refine lv_iconst (v := 1) hx hb dX5_counts_89 (by decide) ?_
            refine lv_goto (tgt := 94) hx hb dX5_counts_90 (by decide) ?_
            exact w_zretS X hr hlk (Or.inr rfl) (by simp [cnP, c_12, c_22, c_37, c_61, c_76]) dX5_counts_94
          ·
            have c_76 : σ.1 24 (201 * i + j) = (-1) := hlt0.mp (Int32.not_le.mp c_76)
            refine lv_iconst (v := 1) hx hb dX5_counts_79 (by decide) ?_
            refine lv_goto (tgt := 84) hx hb dX5_counts_80 (by decide) ?_
            refine lv_istore_n (lv' := [(3, .int 1), (0, .ref (α 14)), (1, .int (nI i)), (2, .int (nI j))]) hx hb dX5_counts_84 rfl hl (by decide) rfl (fun ls hl => ?_)
            refine lv_iload_n hx hb dX5_counts_85 rfl (lv_at hl 0 rfl) ?_
            refine lv_if_ne (tgt := 93) hx hb dX5_counts_86 (by decide) (fun _ => ?_) (fun cc => absurd cc (by decide))
            refine lv_iconst (v := 0) hx hb dX5_counts_93 (by decide) ?_
            exact w_zretS X hr hlk (Or.inl rfl) (by simp [cnP, c_12, c_22, c_37, c_61, c_76]) dX5_counts_94
      ·
        refine lv_iload_n hx hb dX5_counts_40 rfl (lv_at hl 2 rfl) ?_
        refine lv_bipush (v := 7) hx hb dX5_counts_41 (by decide) ?_
        refine lv_irem hx hb dX5_counts_43 (by decide) ?_
        refine lv_bipush (v := 6) hx hb dX5_counts_44 (by decide) ?_
        refine lv_icmp_eq (tgt := 79) hx hb dX5_counts_46 (by decide) (fun c_46 => ?_) (fun c_46 => ?_)
        ·
          refine lv_iconst (v := 1) hx hb dX5_counts_79 (by decide) ?_
          refine lv_goto (tgt := 84) hx hb dX5_counts_80 (by decide) ?_
          refine lv_istore_n (lv' := [(3, .int 1), (0, .ref (α 14)), (1, .int (nI i)), (2, .int (nI j))]) hx hb dX5_counts_84 rfl hl (by decide) rfl (fun ls hl => ?_)
          refine lv_iload_n hx hb dX5_counts_85 rfl (lv_at hl 0 rfl) ?_
          refine lv_if_ne (tgt := 93) hx hb dX5_counts_86 (by decide) (fun _ => ?_) (fun cc => absurd cc (by decide))
          refine lv_iconst (v := 0) hx hb dX5_counts_93 (by decide) ?_
          exact w_zretS X hr hlk (Or.inl rfl) (by simp [cnP, c_12, c_22, c_37, c_46]) dX5_counts_94
        ·
          refine lv_aload_n hx hb dX5_counts_49 rfl (lv_at hl 0 rfl) ?_
          refine fg5_22 X I (by omega) kfX5_56 dX5_counts_50 ?_
          refine lv_bipush (v := 6) hx hb dX5_counts_53 (by decide) ?_
          refine lv_iload_n hx hb dX5_counts_55 rfl (lv_at hl 1 rfl) ?_
          refine lv_imul hx hb dX5_counts_56 ?_
          refine w_eqi (y := nI (6 * i)) (pk_mul 6 _) ?_
          refine lv_iconst (v := 5) hx hb dX5_counts_57 (by decide) ?_
          refine lv_iadd hx hb dX5_counts_58 ?_
          refine w_eqi (y := nI (6 * i + 5)) (nI_add _ 5) ?_
          refine w_ld X I 29 (by omega) (n := 60) (k := 6 * i + 5) (fun _ _ _ => rfl) rfl (by omega) (by decide) dX5_counts_59 ?_
          refine lv_iconst (v := 1) hx hb dX5_counts_60 (by decide) ?_
          refine lv_icmp_ne (tgt := 83) hx hb dX5_counts_61 (by decide) (fun c_61 => ?_) (fun c_61 => ?_)
          ·
            refine lv_iconst (v := 0) hx hb dX5_counts_83 (by decide) ?_
            refine lv_istore_n (lv' := [(3, .int 0), (0, .ref (α 14)), (1, .int (nI i)), (2, .int (nI j))]) hx hb dX5_counts_84 rfl hl (by decide) rfl (fun ls hl => ?_)
            refine lv_iload_n hx hb dX5_counts_85 rfl (lv_at hl 0 rfl) ?_
            refine lv_if_ne (tgt := 93) hx hb dX5_counts_86 (by decide) (fun cc => absurd cc (by decide)) (fun _ => ?_)
            refine lv_iconst (v := 1) hx hb dX5_counts_89 (by decide) ?_
            refine lv_goto (tgt := 94) hx hb dX5_counts_90 (by decide) ?_
            exact w_zretS X hr hlk (Or.inr rfl) (by simp [cnP, c_12, c_22, c_37, c_46, c_61]) dX5_counts_94
          ·
            refine lv_aload_n hx hb dX5_counts_64 rfl (lv_at hl 0 rfl) ?_
            refine fg5_14 X I (by omega) kfX5_37 dX5_counts_65 ?_
            refine lv_sipush (v := 201) hx hb dX5_counts_68 (by decide) ?_
            refine lv_iload_n hx hb dX5_counts_71 rfl (lv_at hl 1 rfl) ?_
            refine lv_imul hx hb dX5_counts_72 ?_
            refine w_eqi (y := nI (201 * i)) (pk_mul 201 _) ?_
            refine lv_iload_n hx hb dX5_counts_73 rfl (lv_at hl 2 rfl) ?_
            refine lv_iadd hx hb dX5_counts_74 ?_
            refine w_eqi (y := nI (201 * i + j)) (nI_add _ _) ?_
            refine w_ld X I 24 (by omega) (n := 2010) (k := 201 * i + j) (fun _ _ _ => rfl) rfl (by omega) (by decide) dX5_counts_75 ?_
            refine lv_if_ge (tgt := 83) hx hb dX5_counts_76 (by decide) (fun c_76 => ?_) (fun c_76 => ?_)
            ·
              have c_76 : ¬ σ.1 24 (201 * i + j) = (-1) := fun z => absurd (hlt0.mpr z) (Int32.not_lt.mpr c_76)
              refine lv_iconst (v := 0) hx hb dX5_counts_83 (by decide) ?_
              refine lv_istore_n (lv' := [(3, .int 0), (0, .ref (α 14)), (1, .int (nI i)), (2, .int (nI j))]) hx hb dX5_counts_84 rfl hl (by decide) rfl (fun ls hl => ?_)
              refine lv_iload_n hx hb dX5_counts_85 rfl (lv_at hl 0 rfl) ?_
              refine lv_if_ne (tgt := 93) hx hb dX5_counts_86 (by decide) (fun cc => absurd cc (by decide)) (fun _ => ?_)
              refine lv_iconst (v := 1) hx hb dX5_counts_89 (by decide) ?_
              refine lv_goto (tgt := 94) hx hb dX5_counts_90 (by decide) ?_
              exact w_zretS X hr hlk (Or.inr rfl) (by simp [cnP, c_12, c_22, c_37, c_46, c_61, c_76]) dX5_counts_94
            ·
              have c_76 : σ.1 24 (201 * i + j) = (-1) := hlt0.mp (Int32.not_le.mp c_76)
              refine lv_iconst (v := 1) hx hb dX5_counts_79 (by decide) ?_
              refine lv_goto (tgt := 84) hx hb dX5_counts_80 (by decide) ?_
              refine lv_istore_n (lv' := [(3, .int 1), (0, .ref (α 14)), (1, .int (nI i)), (2, .int (nI j))]) hx hb dX5_counts_84 rfl hl (by decide) rfl (fun ls hl => ?_)
              refine lv_iload_n hx hb dX5_counts_85 rfl (lv_at hl 0 rfl) ?_
              refine lv_if_ne (tgt := 93) hx hb dX5_counts_86 (by decide) (fun _ => ?_) (fun cc => absurd cc (by decide))
              refine lv_iconst (v := 0) hx hb dX5_counts_93 (by decide) ?_
              exact w_zretS X hr hlk (Or.inl rfl) (by simp [cnP, c_12, c_22, c_37, c_46, c_61, c_76]) dX5_counts_94
end
section
variable {l : Launch} {g : wG} {α : Nat → Nat} {N : Nat} {σ : wS} {p : Program} {e : Env} {s : State} {m : MethodId} {args : Array Value} {below : List Frame} {meth : Method} {c : Code}
set_option maxHeartbeats 4000000 in
set_option maxRecDepth 100000 in
theorem ctX5_last (l : Launch) (g : wG) (α : Nat → Nat) (N : Nat) (σ : wS) (i d : Nat) (hN : 32 ≤ N) (hd : σ.1 14 2 = nI d) (hd200 : d ≤ 200) (hi : i < 10) : Met l yX5_last (wM yX5_last cX5_last 2 (some FieldType.int)) ({ frames := 1, cells := 0, slots := 0, locals := 21 } : Room) (wPc g α N σ [.ref (α 14), .int (nI i)]) (vp_Si (fun r => r = if ¬ σ.1 22 i = (-9) then σ.1 22 i else nI d - 1)) 0 0 (fun _ => False) := by
  refine w_enterS (by decide) (Nat.le_of_ble_eq_true rfl) (fun p e s m args below meth c X I hr hlk ls hl => ?_)
  have hx := X.1.1
  have hb := X.1.2.1
  have hl : lv_has ls 2 [(0, .ref (α 14)), (1, .int (nI i))] := hl
  refine lv_aload_n hx hb dX5_last_0 rfl (lv_at hl 0 rfl) ?_
  refine lv_iload_n hx hb dX5_last_1 rfl (lv_at hl 1 rfl) ?_
  refine w_vSi X I 14 (by omega) rfl rfl (As := [.int (nI i)]) (rest := []) (ctX5_isLoaded l g α N σ i hN hi) (wM_V kmX5_98 ki_X5_isLoaded ks_X5_isLoaded kn_X5 kc_X5_isLoaded) rfl rfl (n := 1) (by decide +kernel) rfl ⟨by decide, by decide⟩ hl.1 rfl (Nat.le_of_ble_eq_true rfl) ⟨Nat.zero_le _, Nat.zero_le _⟩ dX5_last_2 (fun r_2 q_2 => ?_)
  by_cases p_2 : ¬ σ.1 22 i = (-9)
  ·
    obtain rfl : r_2 = 1 := Eq.trans q_2 (if_pos p_2)
    refine lv_if_eq (tgt := 17) hx hb dX5_last_5 (by decide) (fun cc => absurd cc (by decide)) (fun _ => ?_)
    refine lv_aload_n hx hb dX5_last_8 rfl (lv_at hl 0 rfl) ?_
    refine fg5_12 X I (by omega) kfX5_31 dX5_last_9 ?_
    refine lv_iload_n hx hb dX5_last_12 rfl (lv_at hl 1 rfl) ?_
    refine w_ld X I 22 (by omega) (n := 10) (k := i) (fun _ _ _ => rfl) rfl (by omega) (by decide) dX5_last_13 ?_
    refine lv_goto (tgt := 23) hx hb dX5_last_14 (by decide) ?_
    exact w_iretS X hr hlk (by simp [p_2]) dX5_last_23
  ·
    obtain rfl : r_2 = 0 := Eq.trans q_2 (if_neg p_2)
    refine lv_if_eq (tgt := 17) hx hb dX5_last_5 (by decide) (fun _ => ?_) (fun cc => absurd cc (by decide))
    refine lv_aload_n hx hb dX5_last_17 rfl (lv_at hl 0 rfl) ?_
    refine fg5_2 X I (by omega) kfX5_76 dX5_last_18 ?_
    refine w_eqi (y := nI d) hd ?_
    refine lv_iconst (v := 1) hx hb dX5_last_21 (by decide) ?_
    refine lv_isub hx hb dX5_last_22 ?_
    exact w_iretS X hr hlk (by simp [p_2]) dX5_last_23
end
section
variable {l : Launch} {g : wG} {α : Nat → Nat} {N : Nat} {σ : wS} {p : Program} {e : Env} {s : State} {m : MethodId} {args : Array Value} {below : List Frame} {meth : Method} {c : Code}
set_option maxHeartbeats 4000000 in
set_option maxRecDepth 100000 in
theorem lpX5_usedOf_9 (i d a0 e2 : Nat) (X : wX p s m args c cX5_usedOf 4 RX5 g) (I : wI g α N (fun _ => True) s.heap s.heap [] σ) (hr : meth.sig.returnType = (some FieldType.int)) (hlk : meth.locks = false) (hN : 32 ≤ N) (hd : σ.1 14 2 = nI d) (hd200 : d ≤ 200) (hi : i < 10) (hlast : (if ¬ σ.1 22 i = (-9) then σ.1 22 i else nI d - 1) = nI e2 - 1) (hae : a0 ≤ e2) (hed : e2 ≤ d) (har : σ.1 19 i = nI a0) (hge : ∀ j, j < d → (σ.1 24 (201 * i + j) = (-1) ∨ ¬ σ.1 24 (201 * i + j) < 0)) : ∀ (fu : Nat) (t : Nat) (acc : Int32), e2 + 1 ≤ a0 + t + fu → a0 + t ≤ e2 → acc = smI (inF (fun l => σ.1 29 (6 * i + l)) (σ.1 15) (fun l => σ.1 24 (201 * i + l)) a0) t → ∀ ls : Array Slot, lv_has ls 4 [(0, .ref (α 14)), (1, .int (nI i)), (2, .int acc), (3, .int (nI (a0 + t)))] → W p l e ({ frames := 2, cells := 0, slots := 0, locals := 42 } : Room) s m args below meth c s.heap [] 0 0 (MQ below (vp_Si (fun r => r = usF (fun l => σ.1 29 (6 * i + l)) (σ.1 15) (fun l => σ.1 24 (201 * i + l)) a0 e2)) args s 0 0 (fun _ => False)) (F0 m 9 ls []) := by
  have hx := X.1.1
  have hb := X.1.2.1
  intro fu
  induction fu with
  | zero =>
    intro t acc hfu hk ha
    exact absurd hfu (by omega)
  | succ fu ih =>
    intro t acc hfu hk ha ls hl
    refine lv_iload_n hx hb dX5_usedOf_9 rfl (lv_at hl 3 rfl) ?_
    refine lv_aload_n hx hb dX5_usedOf_10 rfl (lv_at hl 0 rfl) ?_
    refine lv_iload_n hx hb dX5_usedOf_11 rfl (lv_at hl 1 rfl) ?_
    refine w_vSi X I 14 (by omega) rfl rfl (As := [.int (nI i)]) (rest := [.int (nI (a0 + t))]) (ctX5_last l g α N σ i d hN hd hd200 hi) (wM_V kmX5_129 ki_X5_last ks_X5_last kn_X5 kc_X5_last) rfl rfl (n := 1) (by decide +kernel) rfl ⟨by decide, by decide⟩ hl.1 rfl (Nat.le_of_ble_eq_true rfl) ⟨Nat.zero_le _, Nat.zero_le _⟩ dX5_usedOf_12 (fun r_12 q_12 => ?_)
    replace q_12 : r_12 = if ¬ σ.1 22 i = (-9) then σ.1 22 i else nI d - 1 := q_12
    subst q_12
    refine w_eqi (y := nI e2 - 1) hlast ?_
    refine lv_icmp_gt (tgt := 41) hx hb dX5_usedOf_15 (by decide) (fun c_15 => ?_) (fun c_15 => ?_)
    ·
      have e : a0 + t = e2 := by have := (m1_lt (by omega) (by omega)).mp c_15; omega
      refine lv_iload_n hx hb dX5_usedOf_41 rfl (lv_at hl 2 rfl) ?_
      exact w_iretS X hr hlk (by rw [ha, usF, ← e, Nat.add_sub_cancel_left]) dX5_usedOf_42
    ·
      have hlt : a0 + t < e2 := Nat.lt_of_not_le (fun z => c_15 ((m1_lt (by omega) (by omega)).mpr z))
      refine lv_iload_n hx hb dX5_usedOf_18 rfl (lv_at hl 2 rfl) ?_
      refine lv_aload_n hx hb dX5_usedOf_19 rfl (lv_at hl 0 rfl) ?_
      refine lv_iload_n hx hb dX5_usedOf_20 rfl (lv_at hl 1 rfl) ?_
      refine lv_iload_n hx hb dX5_usedOf_21 rfl (lv_at hl 3 rfl) ?_
      refine w_vSi X I 14 (by omega) rfl rfl (As := [.int (nI i), .int (nI (a0 + t))]) (rest := [.int acc]) (ctX5_counts l g α N σ i (a0 + t) hN hi (by omega) (hge _ (by omega))) (wM_V kmX5_132 ki_X5_counts ks_X5_counts kn_X5 kc_X5_counts) rfl rfl (n := 2) (by decide +kernel) rfl ⟨by decide, by decide⟩ hl.1 rfl (Nat.le_of_ble_eq_true rfl) ⟨Nat.zero_le _, Nat.zero_le _⟩ dX5_usedOf_22 (fun r_22 q_22 => ?_)
      by_cases p_22 : cnP (fun l => σ.1 29 (6 * i + l)) (σ.1 15) (fun l => σ.1 24 (201 * i + l)) (a0 + t)
      ·
        obtain rfl : r_22 = 1 := Eq.trans q_22 (if_pos p_22)
        refine lv_if_eq (tgt := 32) hx hb dX5_usedOf_25 (by decide) (fun cc => absurd cc (by decide)) (fun _ => ?_)
        refine lv_iconst (v := 1) hx hb dX5_usedOf_28 (by decide) ?_
        refine lv_goto (tgt := 33) hx hb dX5_usedOf_29 (by decide) ?_
        refine lv_iadd hx hb dX5_usedOf_33 ?_
        refine lv_istore_n (lv' := [(2, .int (acc + 1)), (0, .ref (α 14)), (1, .int (nI i)), (3, .int (nI (a0 + t)))]) hx hb dX5_usedOf_34 rfl hl (by decide) rfl (fun ls hl => ?_)
        refine lv_iinc (v := nI ((a0 + t) + 1)) (lv' := [(3, .int (nI ((a0 + t) + 1))), (2, .int (acc + 1)), (0, .ref (α 14)), (1, .int (nI i))]) hx hb dX5_usedOf_35 hl (k := 3) rfl (nI_1 _) (by decide) rfl (fun ls hl => ?_)
        refine lv_goto (tgt := 9) hx hb dX5_usedOf_38 (by decide) ?_
        exact ih (t + 1) (acc + 1) (by omega) (by omega) (by rw [ha, smI, inF]; first | rw [if_pos p_22] | rw [if_neg p_22]) ls (lv_sub hl [2, 3, 1, 0] rfl)
      ·
        obtain rfl : r_22 = 0 := Eq.trans q_22 (if_neg p_22)
        refine lv_if_eq (tgt := 32) hx hb dX5_usedOf_25 (by decide) (fun _ => ?_) (fun cc => absurd cc (by decide))
        refine lv_iconst (v := 0) hx hb dX5_usedOf_32 (by decide) ?_
        refine lv_iadd hx hb dX5_usedOf_33 ?_
        refine lv_istore_n (lv' := [(2, .int (acc + 0)), (0, .ref (α 14)), (1, .int (nI i)), (3, .int (nI (a0 + t)))]) hx hb dX5_usedOf_34 rfl hl (by decide) rfl (fun ls hl => ?_)
        refine lv_iinc (v := nI ((a0 + t) + 1)) (lv' := [(3, .int (nI ((a0 + t) + 1))), (2, .int (acc + 0)), (0, .ref (α 14)), (1, .int (nI i))]) hx hb dX5_usedOf_35 hl (k := 3) rfl (nI_1 _) (by decide) rfl (fun ls hl => ?_)
        refine lv_goto (tgt := 9) hx hb dX5_usedOf_38 (by decide) ?_
        exact ih (t + 1) (acc + 0) (by omega) (by omega) (by rw [ha, smI, inF]; first | rw [if_pos p_22] | rw [if_neg p_22]) ls (lv_sub hl [2, 3, 1, 0] rfl)
set_option maxHeartbeats 4000000 in
set_option maxRecDepth 100000 in
theorem ctX5_usedOf (l : Launch) (g : wG) (α : Nat → Nat) (N : Nat) (σ : wS) (i d a0 e2 : Nat) (hN : 32 ≤ N) (hd : σ.1 14 2 = nI d) (hd200 : d ≤ 200) (hi : i < 10) (hlast : (if ¬ σ.1 22 i = (-9) then σ.1 22 i else nI d - 1) = nI e2 - 1) (hae : a0 ≤ e2) (hed : e2 ≤ d) (har : σ.1 19 i = nI a0) (hge : ∀ j, j < d → (σ.1 24 (201 * i + j) = (-1) ∨ ¬ σ.1 24 (201 * i + j) < 0)) : Met l yX5_usedOf (wM yX5_usedOf cX5_usedOf 4 (some FieldType.int)) ({ frames := 2, cells := 0, slots := 0, locals := 42 } : Room) (wPc g α N σ [.ref (α 14), .int (nI i)]) (vp_Si (fun r => r = usF (fun l => σ.1 29 (6 * i + l)) (σ.1 15) (fun l => σ.1 24 (201 * i + l)) a0 e2)) 0 0 (fun _ => False) := by
  refine w_enterS (by decide) (Nat.le_of_ble_eq_true rfl) (fun p e s m args below meth c X I hr hlk ls hl => ?_)
  have hx := X.1.1
  have hb := X.1.2.1
  have hl : lv_has ls 4 [(0, .ref (α 14)), (1, .int (nI i))] := hl
  refine lv_iconst (v := 0) hx hb dX5_usedOf_0 (by decide) ?_
  refine lv_istore_n (lv' := [(2, .int 0), (0, .ref (α 14)), (1, .int (nI i))]) hx hb dX5_usedOf_1 rfl hl (by decide) rfl (fun ls hl => ?_)
  refine lv_aload_n hx hb dX5_usedOf_2 rfl (lv_at hl 1 rfl) ?_
  refine fg5_9 X I (by omega) kfX5_22 dX5_usedOf_3 ?_
  refine lv_iload_n hx hb dX5_usedOf_6 rfl (lv_at hl 2 rfl) ?_
  refine w_ld X I 19 (by omega) (n := 10) (k := i) (fun _ _ _ => rfl) rfl (by omega) (by decide) dX5_usedOf_7 ?_
  refine w_eqi (y := nI a0) har ?_
  refine lv_istore_n (lv' := [(3, .int (nI a0)), (2, .int 0), (0, .ref (α 14)), (1, .int (nI i))]) hx hb dX5_usedOf_8 rfl hl (by decide) rfl (fun ls hl => ?_)
  exact lpX5_usedOf_9 i d a0 e2 X I hr hlk hN hd hd200 hi hlast hae hed har hge  (e2 + 1) 0 0 (by omega) (by omega) rfl ls (lv_sub hl [2, 3, 1, 0] rfl)
end
section
variable {l : Launch} {g : wG} {α : Nat → Nat} {N : Nat} {σ : wS} {p : Program} {e : Env} {s : State} {m : MethodId} {args : Array Value} {below : List Frame} {meth : Method} {c : Code}
set_option maxHeartbeats 4000000 in
set_option maxRecDepth 100000 in
theorem ctX5_owed (l : Launch) (g : wG) (α : Nat → Nat) (N : Nat) (σ : wS) (sz : Nat) (a b : Int32) (n d : Nat) (ar en : Nat → Nat) (hn : σ.1 14 7 = nI n) (hn10 : n ≤ 10) (hN : 32 ≤ N) (hd : σ.1 14 2 = nI d) (hd200 : d ≤ 200) (hae : ∀ k, k < n → ar k ≤ en k) (hed : ∀ k, k < n → en k ≤ d) (har : ∀ k, k < n → σ.1 19 k = nI (ar k)) (hlast : ∀ k, k < n → (if ¬ σ.1 22 k = (-9) then σ.1 22 k else nI d - 1) = nI (en k) - 1) (hge : ∀ k, k < n → ∀ j, j < d → (σ.1 24 (201 * k + j) = (-1) ∨ ¬ σ.1 24 (201 * k + j) < 0)) : Met l yX5_owed (wM yX5_owed cX5_owed 5 (some FieldType.int)) ({ frames := 3, cells := 0, slots := 0, locals := 65 } : Room) (wPs g α N sz σ [.ref (α 14), .int a, .int b]) (va_Qi (fun r τ => r = spq n a (-1000000) (fun k => if ¬ b < 0 ∧ ¬ 1 < b then (if b = 0 then usF (fun l => σ.1 29 (6 * k + l)) (σ.1 15) (fun l => σ.1 24 (201 * k + l)) (ar k) (en k) else owF (usF (fun l => σ.1 29 (6 * k + l)) (σ.1 15) (fun l => σ.1 24 (201 * k + l)) (ar k) (en k)) (fun l => σ.1 29 (6 * k + l)) (¬ σ.1 22 k = (-9))) else (-1000000)) ∧ τ = wu σ 14 0 0) (wB g α N) (wA α N sz)) 0 0 (wA α N sz) := by
  refine w_enter (by decide) (Nat.le_of_ble_eq_true rfl) (fun p e s m args below meth c hsz X I hr hlk ls hl => ?_)
  have hA : ∀ q, s.heap.size ≤ q → wA α N sz q := fun q h => Or.inr (by omega)
  have hx := X.1.1
  have hb := X.1.2.1
  have hl : lv_has ls 5 [(0, .ref (α 14)), (1, .int a), (2, .int b)] := hl
  refine lv_aload_n hx hb dX5_owed_0 rfl (lv_at hl 0 rfl) ?_
  refine lv_iconst (v := 0) hx hb dX5_owed_1 (by decide) ?_
  refine fp5_0 X I (by omega) kfX5_66 dX5_owed_2 (fun H locs I => ?_)
  refine lv_aload_n hx hb dX5_owed_5 rfl (lv_at hl 0 rfl) ?_
  refine lv_iload_n hx hb dX5_owed_6 rfl (lv_at hl 1 rfl) ?_
  refine w_vSi X I 14 (by omega) rfl rfl (As := [.int a]) (rest := []) (ctX5_isShip l g α N (wu σ 14 0 0) a n hN hn) (wM_V kmX5_82 ki_X5_isShip ks_X5_isShip kn_X5 kc_X5_isShip) rfl rfl (n := 1) (by decide +kernel) rfl ⟨by decide, by decide⟩ hl.1 rfl (Nat.le_of_ble_eq_true rfl) ⟨Nat.zero_le _, Nat.zero_le _⟩ dX5_owed_7 (fun r_7 q_7 => ?_)
  by_cases p_7 : ¬ a < 0 ∧ ¬ nI n - 1 < a
  ·
    obtain rfl : r_7 = 1 := Eq.trans q_7 (if_pos p_7)
    obtain ⟨k, hk, rfl⟩ := m1_ok (n := n) (by omega) p_7
    refine lv_if_eq (tgt := 22) hx hb dX5_owed_10 (by decide) (fun cc => absurd cc (by decide)) (fun _ => ?_)
    refine lv_iload_n hx hb dX5_owed_13 rfl (lv_at hl 2 rfl) ?_
    refine lv_iconst (v := 0) hx hb dX5_owed_14 (by decide) ?_
    refine lv_iconst (v := 1) hx hb dX5_owed_15 (by decide) ?_
    refine w_sSi X I (As := [.int b, .int 0, .int 1]) (rest := []) (ctX5_in l g α N (wu σ 14 0 0) _ _ _ ) (wM_S kmX5_69 kt_X5_in kn_X5 kc_X5_in) rfl rfl (n := 3) (by decide +kernel) rfl ⟨by decide, by decide⟩ hl.1 rfl (Nat.le_of_ble_eq_true rfl) ⟨Nat.zero_le _, Nat.zero_le _⟩ dX5_owed_16 (fun r_16 q_16 => ?_)
    by_cases p_16 : ¬ b < 0 ∧ ¬ 1 < b
    ·
      obtain rfl : r_16 = 1 := Eq.trans q_16 (if_pos p_16)
      refine lv_if_ne (tgt := 25) hx hb dX5_owed_19 (by decide) (fun _ => ?_) (fun cc => absurd cc (by decide))
      refine lv_aload_n hx hb dX5_owed_25 rfl (lv_at hl 0 rfl) ?_
      refine lv_iload_n hx hb dX5_owed_26 rfl (lv_at hl 1 rfl) ?_
      refine w_vSi X I 14 (by omega) rfl rfl (As := [.int (nI k)]) (rest := []) (ctX5_usedOf l g α N (wu σ 14 0 0) k d (ar k) (en k) hN hd hd200 (by omega) (hlast k hk) (hae k hk) (hed k hk) (har k hk) (hge k hk)) (wM_V kmX5_137 ki_X5_usedOf ks_X5_usedOf kn_X5 kc_X5_usedOf) rfl rfl (n := 1) (by decide +kernel) rfl ⟨by decide, by decide⟩ hl.1 rfl (Nat.le_of_ble_eq_true rfl) ⟨Nat.zero_le _, Nat.zero_le _⟩ dX5_owed_27 (fun r_27 q_27 => ?_)
      replace q_27 : r_27 = usF (fun l => σ.1 29 (6 * k + l)) (σ.1 15) (fun l => σ.1 24 (201 * k + l)) (ar k) (en k) := q_27
      subst q_27
      refine lv_istore_n (lv' := [(3, .int (usF (fun l => σ.1 29 (6 * k + l)) (σ.1 15) (fun l => σ.1 24 (201 * k + l)) (ar k) (en k))), (0, .ref (α 14)), (1, .int (nI k)), (2, .int b)]) hx hb dX5_owed_30 rfl hl (by decide) rfl (fun ls hl => ?_)
      refine lv_iload_n hx hb dX5_owed_31 rfl (lv_at hl 0 rfl) ?_
      refine lv_aload_n hx hb dX5_owed_32 rfl (lv_at hl 1 rfl) ?_
      refine fg5_22 X I (by omega) kfX5_56 dX5_owed_33 ?_
      refine lv_bipush (v := 6) hx hb dX5_owed_36 (by decide) ?_
      refine lv_iload_n hx hb dX5_owed_38 rfl (lv_at hl 2 rfl) ?_
      refine lv_imul hx hb dX5_owed_39 ?_
      refine w_eqi (y := nI (6 * k)) (pk_mul 6 _) ?_
      refine w_ld X I 29 (by omega) (n := 60) (k := 6 * k) (fun _ _ _ => rfl) rfl (by omega) (by decide) dX5_owed_40 ?_
      refine w_eqi (y := σ.1 29 (6 * k)) (wu_o (by decide)) ?_
      refine lv_isub hx hb dX5_owed_41 ?_
      refine lv_istore (lv' := [(4, .int ((usF (fun l => σ.1 29 (6 * k + l)) (σ.1 15) (fun l => σ.1 24 (201 * k + l)) (ar k) (en k)) - (σ.1 29 (6 * k)))), (3, .int (usF (fun l => σ.1 29 (6 * k + l)) (σ.1 15) (fun l => σ.1 24 (201 * k + l)) (ar k) (en k))), (0, .ref (α 14)), (1, .int (nI k)), (2, .int b)]) hx hb dX5_owed_42 hl (by decide) rfl (fun ls hl => ?_)
      refine lv_iload_n hx hb dX5_owed_44 rfl (lv_at hl 4 rfl) ?_
      refine lv_if_ne (tgt := 52) hx hb dX5_owed_45 (by decide) (fun c_45 => ?_) (fun c_45 => ?_)
      ·
        refine lv_iload hx hb dX5_owed_52 (lv_at hl 0 rfl) ?_
        refine lv_if_le (tgt := 74) hx hb dX5_owed_54 (by decide) (fun c_54 => ?_) (fun c_54 => ?_)
        ·
          have c_54 : ¬ 0 < usF (fun l => σ.1 29 (6 * k + l)) (σ.1 15) (fun l => σ.1 24 (201 * k + l)) (ar k) (en k) - σ.1 29 (6 * k + 0) := Int32.not_lt.mpr c_54
          refine lv_aload_n hx hb dX5_owed_74 rfl (lv_at hl 2 rfl) ?_
          refine lv_iload_n hx hb dX5_owed_75 rfl (lv_at hl 3 rfl) ?_
          refine w_vSi X I 14 (by omega) rfl rfl (As := [.int (nI k)]) (rest := []) (ctX5_isLoaded l g α N (wu σ 14 0 0) k hN (by omega)) (wM_V kmX5_98 ki_X5_isLoaded ks_X5_isLoaded kn_X5 kc_X5_isLoaded) rfl rfl (n := 1) (by decide +kernel) rfl ⟨by decide, by decide⟩ hl.1 rfl (Nat.le_of_ble_eq_true rfl) ⟨Nat.zero_le _, Nat.zero_le _⟩ dX5_owed_76 (fun r_76 q_76 => ?_)
          by_cases p_76 : ¬ σ.1 22 k = (-9)
          ·
            obtain rfl : r_76 = 1 := Eq.trans q_76 (if_pos p_76)
            refine lv_if_eq (tgt := 99) hx hb dX5_owed_79 (by decide) (fun cc => absurd cc (by decide)) (fun _ => ?_)
            refine lv_iload hx hb dX5_owed_82 (lv_at hl 0 rfl) ?_
            refine lv_aload_n hx hb dX5_owed_84 rfl (lv_at hl 2 rfl) ?_
            refine fg5_22 X I (by omega) kfX5_56 dX5_owed_85 ?_
            refine lv_bipush (v := 6) hx hb dX5_owed_88 (by decide) ?_
            refine lv_iload_n hx hb dX5_owed_90 rfl (lv_at hl 3 rfl) ?_
            refine lv_imul hx hb dX5_owed_91 ?_
            refine w_eqi (y := nI (6 * k)) (pk_mul 6 _) ?_
            refine lv_iconst (v := 2) hx hb dX5_owed_92 (by decide) ?_
            refine lv_iadd hx hb dX5_owed_93 ?_
            refine w_eqi (y := nI (6 * k + 2)) (nI_add _ 2) ?_
            refine w_ld X I 29 (by omega) (n := 60) (k := 6 * k + 2) (fun _ _ _ => rfl) rfl (by omega) (by decide) dX5_owed_94 ?_
            refine w_eqi (y := σ.1 29 (6 * k + 2)) (wu_o (by decide)) ?_
            refine lv_imul hx hb dX5_owed_95 ?_
            refine lv_goto (tgt := 100) hx hb dX5_owed_96 (by decide) ?_
            exact w_iret X I hr hlk (⟨by first | exact (spq_bad hbad).symm | (rw [spq_ok hk (by omega), if_neg p_16]; done) | (rw [spq_ok hk (by omega), if_pos p_16, if_pos c_45]; done) | (rw [spq_ok hk (by omega), if_pos p_16, if_neg c_45, owF, if_pos c_54]; done) | (rw [spq_ok hk (by omega), if_pos p_16, if_neg c_45, owF, if_pos c_54]; rfl) | (rw [spq_ok hk (by omega), if_pos p_16, if_neg c_45, owF, if_neg c_54, if_pos p_76]; done) | (rw [spq_ok hk (by omega), if_pos p_16, if_neg c_45, owF, if_neg c_54, if_pos p_76]; rfl) | (rw [spq_ok hk (by omega), if_pos p_16, if_neg c_45, owF, if_neg c_54, if_neg p_76]; done), rfl⟩) dX5_owed_100
          ·
            obtain rfl : r_76 = 0 := Eq.trans q_76 (if_neg p_76)
            refine lv_if_eq (tgt := 99) hx hb dX5_owed_79 (by decide) (fun _ => ?_) (fun cc => absurd cc (by decide))
            refine lv_iconst (v := 0) hx hb dX5_owed_99 (by decide) ?_
            exact w_iret X I hr hlk (⟨by first | exact (spq_bad hbad).symm | (rw [spq_ok hk (by omega), if_neg p_16]; done) | (rw [spq_ok hk (by omega), if_pos p_16, if_pos c_45]; done) | (rw [spq_ok hk (by omega), if_pos p_16, if_neg c_45, owF, if_pos c_54]; done) | (rw [spq_ok hk (by omega), if_pos p_16, if_neg c_45, owF, if_pos c_54]; rfl) | (rw [spq_ok hk (by omega), if_pos p_16, if_neg c_45, owF, if_neg c_54, if_pos p_76]; done) | (rw [spq_ok hk (by omega), if_pos p_16, if_neg c_45, owF, if_neg c_54, if_pos p_76]; rfl) | (rw [spq_ok hk (by omega), if_pos p_16, if_neg c_45, owF, if_neg c_54, if_neg p_76]; done), rfl⟩) dX5_owed_100
        ·
          have c_54 : 0 < usF (fun l => σ.1 29 (6 * k + l)) (σ.1 15) (fun l => σ.1 24 (201 * k + l)) (ar k) (en k) - σ.1 29 (6 * k + 0) := Int32.not_le.mp c_54
          refine lv_iload hx hb dX5_owed_57 (lv_at hl 0 rfl) ?_
          refine lv_aload_n hx hb dX5_owed_59 rfl (lv_at hl 2 rfl) ?_
          refine fg5_22 X I (by omega) kfX5_56 dX5_owed_60 ?_
          refine lv_bipush (v := 6) hx hb dX5_owed_63 (by decide) ?_
          refine lv_iload_n hx hb dX5_owed_65 rfl (lv_at hl 3 rfl) ?_
          refine lv_imul hx hb dX5_owed_66 ?_
          refine w_eqi (y := nI (6 * k)) (pk_mul 6 _) ?_
          refine lv_iconst (v := 1) hx hb dX5_owed_67 (by decide) ?_
          refine lv_iadd hx hb dX5_owed_68 ?_
          refine w_eqi (y := nI (6 * k + 1)) (nI_add _ 1) ?_
          refine w_ld X I 29 (by omega) (n := 60) (k := 6 * k + 1) (fun _ _ _ => rfl) rfl (by omega) (by decide) dX5_owed_69 ?_
          refine w_eqi (y := σ.1 29 (6 * k + 1)) (wu_o (by decide)) ?_
          refine lv_imul hx hb dX5_owed_70 ?_
          refine lv_goto (tgt := 100) hx hb dX5_owed_71 (by decide) ?_
          exact w_iret X I hr hlk (⟨by first | exact (spq_bad hbad).symm | (rw [spq_ok hk (by omega), if_neg p_16]; done) | (rw [spq_ok hk (by omega), if_pos p_16, if_pos c_45]; done) | (rw [spq_ok hk (by omega), if_pos p_16, if_neg c_45, owF, if_pos c_54]; done) | (rw [spq_ok hk (by omega), if_pos p_16, if_neg c_45, owF, if_pos c_54]; rfl) | (rw [spq_ok hk (by omega), if_pos p_16, if_neg c_45, owF, if_neg c_54, if_pos p_76]; done) | (rw [spq_ok hk (by omega), if_pos p_16, if_neg c_45, owF, if_neg c_54, if_pos p_76]; rfl) | (rw [spq_ok hk (by omega), if_pos p_16, if_neg c_45, owF, if_neg c_54, if_neg p_76]; done), rfl⟩) dX5_owed_100
      ·
        refine lv_iload_n hx hb dX5_owed_48 rfl (lv_at hl 1 rfl) ?_
        refine lv_goto (tgt := 100) hx hb dX5_owed_49 (by decide) ?_
        exact w_iret X I hr hlk (⟨by first | exact (spq_bad hbad).symm | (rw [spq_ok hk (by omega), if_neg p_16]; done) | (rw [spq_ok hk (by omega), if_pos p_16, if_pos c_45]; done) | (rw [spq_ok hk (by omega), if_pos p_16, if_neg c_45, owF, if_pos c_54]; done) | (rw [spq_ok hk (by omega), if_pos p_16, if_neg c_45, owF, if_pos c_54]; rfl) | (rw [spq_ok hk (by omega), if_pos p_16, if_neg c_45, owF, if_neg c_54, if_pos p_76]; done) | (rw [spq_ok hk (by omega), if_pos p_16, if_neg c_45, owF, if_neg c_54, if_pos p_76]; rfl) | (rw [spq_ok hk (by omega), if_pos p_16, if_neg c_45, owF, if_neg c_54, if_neg p_76]; done), rfl⟩) dX5_owed_100
    ·
      obtain rfl : r_16 = 0 := Eq.trans q_16 (if_neg p_16)
      refine lv_if_ne (tgt := 25) hx hb dX5_owed_19 (by decide) (fun cc => absurd cc (by decide)) (fun _ => ?_)
      refine lv_ldc hx hb X.1.2.2.2.1 (X.1.2.2.2.2 _ kkX5_136) dX5_owed_22 ?_
      exact w_iret X I hr hlk (⟨by first | exact (spq_bad hbad).symm | (rw [spq_ok hk (by omega), if_neg p_16]; done) | (rw [spq_ok hk (by omega), if_pos p_16, if_pos c_45]; done) | (rw [spq_ok hk (by omega), if_pos p_16, if_neg c_45, owF, if_pos c_54]; done) | (rw [spq_ok hk (by omega), if_pos p_16, if_neg c_45, owF, if_pos c_54]; rfl) | (rw [spq_ok hk (by omega), if_pos p_16, if_neg c_45, owF, if_neg c_54, if_pos p_76]; done) | (rw [spq_ok hk (by omega), if_pos p_16, if_neg c_45, owF, if_neg c_54, if_pos p_76]; rfl) | (rw [spq_ok hk (by omega), if_pos p_16, if_neg c_45, owF, if_neg c_54, if_neg p_76]; done), rfl⟩) dX5_owed_24
  ·
    obtain rfl : r_7 = 0 := Eq.trans q_7 (if_neg p_7)
    have hbad := m1_bad (n := n) (by omega) p_7
    refine lv_if_eq (tgt := 22) hx hb dX5_owed_10 (by decide) (fun _ => ?_) (fun cc => absurd cc (by decide))
    refine lv_ldc hx hb X.1.2.2.2.1 (X.1.2.2.2.2 _ kkX5_136) dX5_owed_22 ?_
    exact w_iret X I hr hlk (⟨by first | exact (spq_bad hbad).symm | (rw [spq_ok hk (by omega), if_neg p_16]; done) | (rw [spq_ok hk (by omega), if_pos p_16, if_pos c_45]; done) | (rw [spq_ok hk (by omega), if_pos p_16, if_neg c_45, owF, if_pos c_54]; done) | (rw [spq_ok hk (by omega), if_pos p_16, if_neg c_45, owF, if_pos c_54]; rfl) | (rw [spq_ok hk (by omega), if_pos p_16, if_neg c_45, owF, if_neg c_54, if_pos p_76]; done) | (rw [spq_ok hk (by omega), if_pos p_16, if_neg c_45, owF, if_neg c_54, if_pos p_76]; rfl) | (rw [spq_ok hk (by omega), if_pos p_16, if_neg c_45, owF, if_neg c_54, if_neg p_76]; done), rfl⟩) dX5_owed_24
end
section
variable {l : Launch} {g : wG} {α : Nat → Nat} {N : Nat} {σ : wS} {p : Program} {e : Env} {s : State} {m : MethodId} {args : Array Value} {below : List Frame} {meth : Method} {c : Code}
set_option maxHeartbeats 4000000 in
set_option maxRecDepth 100000 in
theorem lpX5_shared_37 {sz : Nat} (a b : Int32) (n d : Nat) (ar en : Nat → Nat) (X : wX p s m args c cX5_shared 7 RX5 g) (hsz : s.heap.size = sz) (hr : meth.sig.returnType = (some FieldType.int)) (hlk : meth.locks = false) (hn : σ.1 14 7 = nI n) (hn10 : n ≤ 10) (hN : 32 ≤ N) (hd : σ.1 14 2 = nI d) (hd200 : d ≤ 200) (hae : ∀ k, k < n → ar k ≤ en k) (hed : ∀ k, k < n → en k ≤ d) (har : ∀ k, k < n → σ.1 19 k = nI (ar k)) (hlast : ∀ k, k < n → (if ¬ σ.1 22 k = (-9) then σ.1 22 k else nI d - 1) = nI (en k) - 1) (hge : ∀ k, k < n → ∀ j, j < d → (σ.1 24 (201 * k + j) = (-1) ∨ ¬ σ.1 24 (201 * k + j) < 0)) : ∀ (fu : Nat) (k : Nat) (t : Nat) (co : Int32) (fo : Int32), en k + 1 ≤ ar k + t + fu → k < n → ¬ b < 0 ∧ ¬ 2 < b → a = nI k → ar k + t ≤ en k → co = smI (inF (fun l => σ.1 29 (6 * k + l)) (σ.1 15) (fun l => σ.1 24 (201 * k + l)) (ar k)) t → fo = smI (shG (fun l => σ.1 29 (6 * k + l)) (σ.1 15) (fun l => σ.1 24 (201 * k + l)) b (ar k)) t → ∀ (H : Heap) (locs : List Loc), wI g α N (wA α N sz) s.heap H locs (wu σ 14 0 0) → ∀ ls : Array Slot, lv_has ls 7 [(0, .ref (α 14)), (1, .int (nI k)), (2, .int b), (3, .int co), (4, .int fo), (5, .int (nI (ar k + t)))] → W p l e ({ frames := 2, cells := 0, slots := 0, locals := 43 } : Room) s m args below meth c H locs 0 0 (MQ below (va_Qi (fun r τ => r = spq n a (-1) (fun k => if ¬ b < 0 ∧ ¬ 2 < b then smI (shG (fun l => σ.1 29 (6 * k + l)) (σ.1 15) (fun l => σ.1 24 (201 * k + l)) b (ar k)) (en k - ar k) else (-1)) ∧ τ = wu σ 14 0 0) (wB g α N) (wA α N sz)) args s 0 0 (wA α N sz)) (F0 m 37 ls []) := by
  have hA : ∀ q, s.heap.size ≤ q → wA α N sz q := fun q h => Or.inr (by omega)
  have hx := X.1.1
  have hb := X.1.2.1
  intro fu
  induction fu with
  | zero =>
    intro k t co fo hfu hk hbb hka ht h1 h2
    exact absurd hfu (by omega)
  | succ fu ih =>
    intro k t co fo hfu hk hbb hka ht h1 h2 H locs I ls hl
    have hedk := hed k hk
    refine lv_iload hx hb dX5_shared_37 (lv_at hl 5 rfl) ?_
    refine lv_aload_n hx hb dX5_shared_39 rfl (lv_at hl 0 rfl) ?_
    refine lv_iload_n hx hb dX5_shared_40 rfl (lv_at hl 1 rfl) ?_
    refine w_vSi X I 14 (by omega) rfl rfl (As := [.int (nI k)]) (rest := [.int (nI (ar k + t))]) (ctX5_last l g α N (wu σ 14 0 0) k d hN hd hd200 (by omega)) (wM_V kmX5_129 ki_X5_last ks_X5_last kn_X5 kc_X5_last) rfl rfl (n := 1) (by decide +kernel) rfl ⟨by decide, by decide⟩ hl.1 rfl (Nat.le_of_ble_eq_true rfl) ⟨Nat.zero_le _, Nat.zero_le _⟩ dX5_shared_41 (fun r_41 q_41 => ?_)
    replace q_41 : r_41 = if ¬ σ.1 22 k = (-9) then σ.1 22 k else nI d - 1 := q_41
    subst q_41
    refine w_eqi (y := nI (en k) - 1) (hlast k hk) ?_
    refine lv_icmp_gt (tgt := 134) hx hb dX5_shared_44 (by decide) (fun c_44 => ?_) (fun c_44 => ?_)
    ·
      have e : ar k + t = en k := by have := (m1_lt (by omega) (by omega)).mp c_44; omega
      refine lv_iload hx hb dX5_shared_134 (lv_at hl 4 rfl) ?_
      exact w_iret X I hr hlk (⟨by first | exact (spq_bad hbad).symm | (rw [spq_ok hk (by omega), if_neg p_16]; done) | (rw [hka, spq_ok hk (by omega), if_pos hbb, h2, ← e, Nat.add_sub_cancel_left]), rfl⟩) dX5_shared_136
    ·
      have hlt : ar k + t < en k := Nat.lt_of_not_le (fun z => c_44 ((m1_lt (by omega) (by omega)).mpr z))
      refine lv_aload_n hx hb dX5_shared_47 rfl (lv_at hl 0 rfl) ?_
      refine lv_iload_n hx hb dX5_shared_48 rfl (lv_at hl 1 rfl) ?_
      refine lv_iload hx hb dX5_shared_49 (lv_at hl 5 rfl) ?_
      refine w_vSi X I 14 (by omega) rfl rfl (As := [.int (nI k), .int (nI (ar k + t))]) (rest := []) (ctX5_counts l g α N (wu σ 14 0 0) k (ar k + t) hN (by omega) (by omega) (hge k hk _ (by omega))) (wM_V kmX5_132 ki_X5_counts ks_X5_counts kn_X5 kc_X5_counts) rfl rfl (n := 2) (by decide +kernel) rfl ⟨by decide, by decide⟩ hl.1 rfl (Nat.le_of_ble_eq_true rfl) ⟨Nat.zero_le _, Nat.zero_le _⟩ dX5_shared_51 (fun r_51 q_51 => ?_)
      by_cases p_51 : cnP (fun l => σ.1 29 (6 * k + l)) (σ.1 15) (fun l => σ.1 24 (201 * k + l)) (ar k + t)
      ·
        obtain rfl : r_51 = 1 := Eq.trans q_51 (if_pos p_51)
        refine lv_if_eq (tgt := 128) hx hb dX5_shared_54 (by decide) (fun cc => absurd cc (by decide)) (fun _ => ?_)
        refine lv_iinc (v := co + 1) (lv' := [(3, .int (co + 1)), (0, .ref (α 14)), (1, .int (nI k)), (2, .int b), (4, .int fo), (5, .int (nI (ar k + t)))]) hx hb dX5_shared_57 hl (k := 3) rfl rfl (by decide) rfl (fun ls hl => ?_)
        refine lv_aload_n hx hb dX5_shared_60 rfl (lv_at hl 1 rfl) ?_
        refine fg5_3 X I (by omega) kfX5_7 dX5_shared_61 ?_
        refine lv_iload hx hb dX5_shared_64 (lv_at hl 5 rfl) ?_
        refine w_ld X I 15 (by omega) (n := 201) (k := ar k + t) (fun _ _ _ => rfl) rfl (by omega) (by decide) dX5_shared_66 ?_
        refine lv_bipush (v := 7) hx hb dX5_shared_67 (by decide) ?_
        refine lv_icmp_le (tgt := 76) hx hb dX5_shared_69 (by decide) (fun c_69 => ?_) (fun c_69 => ?_)
        ·
          have c_69 : ¬ 7 < σ.1 15 (ar k + t) := Int32.not_lt.mpr c_69
          refine lv_aload_n hx hb dX5_shared_76 rfl (lv_at hl 1 rfl) ?_
          refine fg5_14 X I (by omega) kfX5_37 dX5_shared_77 ?_
          refine lv_sipush (v := 201) hx hb dX5_shared_80 (by decide) ?_
          refine lv_iload_n hx hb dX5_shared_83 rfl (lv_at hl 2 rfl) ?_
          refine lv_imul hx hb dX5_shared_84 ?_
          refine w_eqi (y := nI (201 * k)) (pk_mul 201 _) ?_
          refine lv_iload hx hb dX5_shared_85 (lv_at hl 5 rfl) ?_
          refine lv_iadd hx hb dX5_shared_87 ?_
          refine w_eqi (y := nI (201 * k + (ar k + t))) (nI_add _ _) ?_
          refine w_ld X I 24 (by omega) (n := 2010) (k := 201 * k + (ar k + t)) (fun _ _ _ => rfl) rfl (by omega) (by decide) dX5_shared_88 ?_
          refine lv_if_ne (tgt := 96) hx hb dX5_shared_89 (by decide) (fun c_89 => ?_) (fun c_89 => ?_)
          ·
            have c_89 : ¬ σ.1 24 (201 * k + (ar k + t)) = 0 := c_89
            refine lv_iconst (v := 2) hx hb dX5_shared_96 (by decide) ?_
            have hsh : shF (σ.1 15) (fun l => σ.1 24 (201 * k + l)) (ar k + t) = 2 := by first | (simp [shF, c_69]; done) | (simp [shF, c_69, c_89]; done)
            refine lv_istore (lv' := [(6, .int 2), (3, .int (co + 1)), (0, .ref (α 14)), (1, .int (nI k)), (2, .int b), (4, .int fo), (5, .int (nI (ar k + t)))]) hx hb dX5_shared_97 hl (by decide) rfl (fun ls hl => ?_)
            refine lv_iload hx hb dX5_shared_99 (lv_at hl 5 rfl) ?_
            refine lv_iload_n hx hb dX5_shared_101 rfl (lv_at hl 1 rfl) ?_
            refine lv_aload_n hx hb dX5_shared_102 rfl (lv_at hl 2 rfl) ?_
            refine fg5_22 X I (by omega) kfX5_56 dX5_shared_103 ?_
            refine lv_bipush (v := 6) hx hb dX5_shared_106 (by decide) ?_
            refine lv_iload_n hx hb dX5_shared_108 rfl (lv_at hl 3 rfl) ?_
            refine lv_imul hx hb dX5_shared_109 ?_
            refine w_eqi (y := nI (6 * k)) (pk_mul 6 _) ?_
            refine w_ld X I 29 (by omega) (n := 60) (k := 6 * k) (fun _ _ _ => rfl) rfl (by omega) (by decide) dX5_shared_110 ?_
            refine lv_icmp_le (tgt := 124) hx hb dX5_shared_111 (by decide) (fun c_111 => ?_) (fun c_111 => ?_)
            ·
              have hlay : ¬ σ.1 29 (6 * k + 0) < smI (inF (fun l => σ.1 29 (6 * k + l)) (σ.1 15) (fun l => σ.1 24 (201 * k + l)) (ar k)) (t + 1) := by rw [smI, inF, if_pos p_51, ← h1]; exact Int32.not_lt.mpr c_111
              refine lv_iconst (v := 0) hx hb dX5_shared_124 (by decide) ?_
              refine lv_iadd hx hb dX5_shared_125 ?_
              refine lv_istore (lv' := [(4, .int (fo + 0)), (6, .int 2), (3, .int (co + 1)), (0, .ref (α 14)), (1, .int (nI k)), (2, .int b), (5, .int (nI (ar k + t)))]) hx hb dX5_shared_126 hl (by decide) rfl (fun ls hl => ?_)
              refine lv_iinc (v := nI ((ar k + t) + 1)) (lv' := [(5, .int (nI ((ar k + t) + 1))), (4, .int (fo + 0)), (6, .int 2), (3, .int (co + 1)), (0, .ref (α 14)), (1, .int (nI k)), (2, .int b)]) hx hb dX5_shared_128 hl (k := 6) rfl (nI_1 _) (by decide) rfl (fun ls hl => ?_)
              refine lv_goto (tgt := 37) hx hb dX5_shared_131 (by decide) ?_
              exact ih k (t + 1) (co + 1) (fo + 0) (by omega) hk hbb hka (by omega) (by rw [h1, smI, inF]; first | rw [if_pos p_51] | (rw [if_neg p_51]; simp)) (by rw [h2, smI, shG]; first | (rw [if_pos ⟨p_51, hlay, hsh.trans c_117⟩]; done) | (rw [if_neg (fun z => c_117 (hsh.symm.trans z.2.2))]; done) | (rw [if_neg (fun z => hlay z.2.1)]; done) | (rw [if_neg (fun z => p_51 z.1)]; simp; done)) _ _ I ls (lv_sub hl [4, 5, 6, 3, 1, 0] rfl)
            ·
              have hlay : σ.1 29 (6 * k + 0) < smI (inF (fun l => σ.1 29 (6 * k + l)) (σ.1 15) (fun l => σ.1 24 (201 * k + l)) (ar k)) (t + 1) := by rw [smI, inF, if_pos p_51, ← h1]; exact Int32.not_le.mp c_111
              refine lv_iload hx hb dX5_shared_114 (lv_at hl 0 rfl) ?_
              refine lv_iload_n hx hb dX5_shared_116 rfl (lv_at hl 4 rfl) ?_
              refine lv_icmp_ne (tgt := 124) hx hb dX5_shared_117 (by decide) (fun c_117 => ?_) (fun c_117 => ?_)
              ·
                refine lv_iconst (v := 0) hx hb dX5_shared_124 (by decide) ?_
                refine lv_iadd hx hb dX5_shared_125 ?_
                refine lv_istore (lv' := [(4, .int (fo + 0)), (6, .int 2), (3, .int (co + 1)), (0, .ref (α 14)), (1, .int (nI k)), (2, .int b), (5, .int (nI (ar k + t)))]) hx hb dX5_shared_126 hl (by decide) rfl (fun ls hl => ?_)
                refine lv_iinc (v := nI ((ar k + t) + 1)) (lv' := [(5, .int (nI ((ar k + t) + 1))), (4, .int (fo + 0)), (6, .int 2), (3, .int (co + 1)), (0, .ref (α 14)), (1, .int (nI k)), (2, .int b)]) hx hb dX5_shared_128 hl (k := 6) rfl (nI_1 _) (by decide) rfl (fun ls hl => ?_)
                refine lv_goto (tgt := 37) hx hb dX5_shared_131 (by decide) ?_
                exact ih k (t + 1) (co + 1) (fo + 0) (by omega) hk hbb hka (by omega) (by rw [h1, smI, inF]; first | rw [if_pos p_51] | (rw [if_neg p_51]; simp)) (by rw [h2, smI, shG]; first | (rw [if_pos ⟨p_51, hlay, hsh.trans c_117⟩]; done) | (rw [if_neg (fun z => c_117 (hsh.symm.trans z.2.2))]; done) | (rw [if_neg (fun z => hlay z.2.1)]; done) | (rw [if_neg (fun z => p_51 z.1)]; simp; done)) _ _ I ls (lv_sub hl [4, 5, 6, 3, 1, 0] rfl)
              ·
                refine lv_iconst (v := 1) hx hb dX5_shared_120 (by decide) ?_
                refine lv_goto (tgt := 125) hx hb dX5_shared_121 (by decide) ?_
                refine lv_iadd hx hb dX5_shared_125 ?_
                refine lv_istore (lv' := [(4, .int (fo + 1)), (6, .int 2), (3, .int (co + 1)), (0, .ref (α 14)), (1, .int (nI k)), (2, .int b), (5, .int (nI (ar k + t)))]) hx hb dX5_shared_126 hl (by decide) rfl (fun ls hl => ?_)
                refine lv_iinc (v := nI ((ar k + t) + 1)) (lv' := [(5, .int (nI ((ar k + t) + 1))), (4, .int (fo + 1)), (6, .int 2), (3, .int (co + 1)), (0, .ref (α 14)), (1, .int (nI k)), (2, .int b)]) hx hb dX5_shared_128 hl (k := 6) rfl (nI_1 _) (by decide) rfl (fun ls hl => ?_)
                refine lv_goto (tgt := 37) hx hb dX5_shared_131 (by decide) ?_
                exact ih k (t + 1) (co + 1) (fo + 1) (by omega) hk hbb hka (by omega) (by rw [h1, smI, inF]; first | rw [if_pos p_51] | (rw [if_neg p_51]; simp)) (by rw [h2, smI, shG]; first | (rw [if_pos ⟨p_51, hlay, hsh.trans c_117⟩]; done) | (rw [if_neg (fun z => c_117 (hsh.symm.trans z.2.2))]; done) | (rw [if_neg (fun z => hlay z.2.1)]; done) | (rw [if_neg (fun z => p_51 z.1)]; simp; done)) _ _ I ls (lv_sub hl [4, 5, 6, 3, 1, 0] rfl)
          ·
            have c_89 : σ.1 24 (201 * k + (ar k + t)) = 0 := c_89
            refine lv_iconst (v := 1) hx hb dX5_shared_92 (by decide) ?_
            refine lv_goto (tgt := 97) hx hb dX5_shared_93 (by decide) ?_
            have hsh : shF (σ.1 15) (fun l => σ.1 24 (201 * k + l)) (ar k + t) = 1 := by first | (simp [shF, c_69]; done) | (simp [shF, c_69, c_89]; done)
            refine lv_istore (lv' := [(6, .int 1), (3, .int (co + 1)), (0, .ref (α 14)), (1, .int (nI k)), (2, .int b), (4, .int fo), (5, .int (nI (ar k + t)))]) hx hb dX5_shared_97 hl (by decide) rfl (fun ls hl => ?_)
            refine lv_iload hx hb dX5_shared_99 (lv_at hl 5 rfl) ?_
            refine lv_iload_n hx hb dX5_shared_101 rfl (lv_at hl 1 rfl) ?_
            refine lv_aload_n hx hb dX5_shared_102 rfl (lv_at hl 2 rfl) ?_
            refine fg5_22 X I (by omega) kfX5_56 dX5_shared_103 ?_
            refine lv_bipush (v := 6) hx hb dX5_shared_106 (by decide) ?_
            refine lv_iload_n hx hb dX5_shared_108 rfl (lv_at hl 3 rfl) ?_
            refine lv_imul hx hb dX5_shared_109 ?_
            refine w_eqi (y := nI (6 * k)) (pk_mul 6 _) ?_
            refine w_ld X I 29 (by omega) (n := 60) (k := 6 * k) (fun _ _ _ => rfl) rfl (by omega) (by decide) dX5_shared_110 ?_
            refine lv_icmp_le (tgt := 124) hx hb dX5_shared_111 (by decide) (fun c_111 => ?_) (fun c_111 => ?_)
            ·
              have hlay : ¬ σ.1 29 (6 * k + 0) < smI (inF (fun l => σ.1 29 (6 * k + l)) (σ.1 15) (fun l => σ.1 24 (201 * k + l)) (ar k)) (t + 1) := by rw [smI, inF, if_pos p_51, ← h1]; exact Int32.not_lt.mpr c_111
              refine lv_iconst (v := 0) hx hb dX5_shared_124 (by decide) ?_
              refine lv_iadd hx hb dX5_shared_125 ?_
              refine lv_istore (lv' := [(4, .int (fo + 0)), (6, .int 1), (3, .int (co + 1)), (0, .ref (α 14)), (1, .int (nI k)), (2, .int b), (5, .int (nI (ar k + t)))]) hx hb dX5_shared_126 hl (by decide) rfl (fun ls hl => ?_)
              refine lv_iinc (v := nI ((ar k + t) + 1)) (lv' := [(5, .int (nI ((ar k + t) + 1))), (4, .int (fo + 0)), (6, .int 1), (3, .int (co + 1)), (0, .ref (α 14)), (1, .int (nI k)), (2, .int b)]) hx hb dX5_shared_128 hl (k := 6) rfl (nI_1 _) (by decide) rfl (fun ls hl => ?_)
              refine lv_goto (tgt := 37) hx hb dX5_shared_131 (by decide) ?_
              exact ih k (t + 1) (co + 1) (fo + 0) (by omega) hk hbb hka (by omega) (by rw [h1, smI, inF]; first | rw [if_pos p_51] | (rw [if_neg p_51]; simp)) (by rw [h2, smI, shG]; first | (rw [if_pos ⟨p_51, hlay, hsh.trans c_117⟩]; done) | (rw [if_neg (fun z => c_117 (hsh.symm.trans z.2.2))]; done) | (rw [if_neg (fun z => hlay z.2.1)]; done) | (rw [if_neg (fun z => p_51 z.1)]; simp; done)) _ _ I ls (lv_sub hl [4, 5, 6, 3, 1, 0] rfl)
            ·
              have hlay : σ.1 29 (6 * k + 0) < smI (inF (fun l => σ.1 29 (6 * k + l)) (σ.1 15) (fun l => σ.1 24 (201 * k + l)) (ar k)) (t + 1) := by rw [smI, inF, if_pos p_51, ← h1]; exact Int32.not_le.mp c_111
              refine lv_iload hx hb dX5_shared_114 (lv_at hl 0 rfl) ?_
              refine lv_iload_n hx hb dX5_shared_116 rfl (lv_at hl 4 rfl) ?_
              refine lv_icmp_ne (tgt := 124) hx hb dX5_shared_117 (by decide) (fun c_117 => ?_) (fun c_117 => ?_)
              ·
                refine lv_iconst (v := 0) hx hb dX5_shared_124 (by decide) ?_
                refine lv_iadd hx hb dX5_shared_125 ?_
                refine lv_istore (lv' := [(4, .int (fo + 0)), (6, .int 1), (3, .int (co + 1)), (0, .ref (α 14)), (1, .int (nI k)), (2, .int b), (5, .int (nI (ar k + t)))]) hx hb dX5_shared_126 hl (by decide) rfl (fun ls hl => ?_)
                refine lv_iinc (v := nI ((ar k + t) + 1)) (lv' := [(5, .int (nI ((ar k + t) + 1))), (4, .int (fo + 0)), (6, .int 1), (3, .int (co + 1)), (0, .ref (α 14)), (1, .int (nI k)), (2, .int b)]) hx hb dX5_shared_128 hl (k := 6) rfl (nI_1 _) (by decide) rfl (fun ls hl => ?_)
                refine lv_goto (tgt := 37) hx hb dX5_shared_131 (by decide) ?_
                exact ih k (t + 1) (co + 1) (fo + 0) (by omega) hk hbb hka (by omega) (by rw [h1, smI, inF]; first | rw [if_pos p_51] | (rw [if_neg p_51]; simp)) (by rw [h2, smI, shG]; first | (rw [if_pos ⟨p_51, hlay, hsh.trans c_117⟩]; done) | (rw [if_neg (fun z => c_117 (hsh.symm.trans z.2.2))]; done) | (rw [if_neg (fun z => hlay z.2.1)]; done) | (rw [if_neg (fun z => p_51 z.1)]; simp; done)) _ _ I ls (lv_sub hl [4, 5, 6, 3, 1, 0] rfl)
              ·
                refine lv_iconst (v := 1) hx hb dX5_shared_120 (by decide) ?_
                refine lv_goto (tgt := 125) hx hb dX5_shared_121 (by decide) ?_
                refine lv_iadd hx hb dX5_shared_125 ?_
                refine lv_istore (lv' := [(4, .int (fo + 1)), (6, .int 1), (3, .int (co + 1)), (0, .ref (α 14)), (1, .int (nI k)), (2, .int b), (5, .int (nI (ar k + t)))]) hx hb dX5_shared_126 hl (by decide) rfl (fun ls hl => ?_)
                refine lv_iinc (v := nI ((ar k + t) + 1)) (lv' := [(5, .int (nI ((ar k + t) + 1))), (4, .int (fo + 1)), (6, .int 1), (3, .int (co + 1)), (0, .ref (α 14)), (1, .int (nI k)), (2, .int b)]) hx hb dX5_shared_128 hl (k := 6) rfl (nI_1 _) (by decide) rfl (fun ls hl => ?_)
                refine lv_goto (tgt := 37) hx hb dX5_shared_131 (by decide) ?_
                exact ih k (t + 1) (co + 1) (fo + 1) (by omega) hk hbb hka (by omega) (by rw [h1, smI, inF]; first | rw [if_pos p_51] | (rw [if_neg p_51]; simp)) (by rw [h2, smI, shG]; first | (rw [if_pos ⟨p_51, hlay, hsh.trans c_117⟩]; done) | (rw [if_neg (fun z => c_117 (hsh.symm.trans z.2.2))]; done) | (rw [if_neg (fun z => hlay z.2.1)]; done) | (rw [if_neg (fun z => p_51 z.1)]; simp; done)) _ _ I ls (lv_sub hl [4, 5, 6, 3, 1, 0] rfl)
        ·
          have c_69 : 7 < σ.1 15 (ar k + t) := Int32.not_le.mp c_69
          refine lv_iconst (v := 0) hx hb dX5_shared_72 (by decide) ?_
          refine lv_goto (tgt := 97) hx hb dX5_shared_73 (by decide) ?_
          have hsh : shF (σ.1 15) (fun l => σ.1 24 (201 * k + l)) (ar k + t) = 0 := by first | (simp [shF, c_69]; done) | (simp [shF, c_69, c_89]; done)
          refine lv_istore (lv' := [(6, .int 0), (3, .int (co + 1)), (0, .ref (α 14)), (1, .int (nI k)), (2, .int b), (4, .int fo), (5, .int (nI (ar k + t)))]) hx hb dX5_shared_97 hl (by decide) rfl (fun ls hl => ?_)
          refine lv_iload hx hb dX5_shared_99 (lv_at hl 5 rfl) ?_
          refine lv_iload_n hx hb dX5_shared_101 rfl (lv_at hl 1 rfl) ?_
          refine lv_aload_n hx hb dX5_shared_102 rfl (lv_at hl 2 rfl) ?_
          refine fg5_22 X I (by omega) kfX5_56 dX5_shared_103 ?_
          refine lv_bipush (v := 6) hx hb dX5_shared_106 (by decide) ?_
          refine lv_iload_n hx hb dX5_shared_108 rfl (lv_at hl 3 rfl) ?_
          refine lv_imul hx hb dX5_shared_109 ?_
          refine w_eqi (y := nI (6 * k)) (pk_mul 6 _) ?_
          refine w_ld X I 29 (by omega) (n := 60) (k := 6 * k) (fun _ _ _ => rfl) rfl (by omega) (by decide) dX5_shared_110 ?_
          refine lv_icmp_le (tgt := 124) hx hb dX5_shared_111 (by decide) (fun c_111 => ?_) (fun c_111 => ?_)
          ·
            have hlay : ¬ σ.1 29 (6 * k + 0) < smI (inF (fun l => σ.1 29 (6 * k + l)) (σ.1 15) (fun l => σ.1 24 (201 * k + l)) (ar k)) (t + 1) := by rw [smI, inF, if_pos p_51, ← h1]; exact Int32.not_lt.mpr c_111
            refine lv_iconst (v := 0) hx hb dX5_shared_124 (by decide) ?_
            refine lv_iadd hx hb dX5_shared_125 ?_
            refine lv_istore (lv' := [(4, .int (fo + 0)), (6, .int 0), (3, .int (co + 1)), (0, .ref (α 14)), (1, .int (nI k)), (2, .int b), (5, .int (nI (ar k + t)))]) hx hb dX5_shared_126 hl (by decide) rfl (fun ls hl => ?_)
            refine lv_iinc (v := nI ((ar k + t) + 1)) (lv' := [(5, .int (nI ((ar k + t) + 1))), (4, .int (fo + 0)), (6, .int 0), (3, .int (co + 1)), (0, .ref (α 14)), (1, .int (nI k)), (2, .int b)]) hx hb dX5_shared_128 hl (k := 6) rfl (nI_1 _) (by decide) rfl (fun ls hl => ?_)
            refine lv_goto (tgt := 37) hx hb dX5_shared_131 (by decide) ?_
            exact ih k (t + 1) (co + 1) (fo + 0) (by omega) hk hbb hka (by omega) (by rw [h1, smI, inF]; first | rw [if_pos p_51] | (rw [if_neg p_51]; simp)) (by rw [h2, smI, shG]; first | (rw [if_pos ⟨p_51, hlay, hsh.trans c_117⟩]; done) | (rw [if_neg (fun z => c_117 (hsh.symm.trans z.2.2))]; done) | (rw [if_neg (fun z => hlay z.2.1)]; done) | (rw [if_neg (fun z => p_51 z.1)]; simp; done)) _ _ I ls (lv_sub hl [4, 5, 6, 3, 1, 0] rfl)
          ·
            have hlay : σ.1 29 (6 * k + 0) < smI (inF (fun l => σ.1 29 (6 * k + l)) (σ.1 15) (fun l => σ.1 24 (201 * k + l)) (ar k)) (t + 1) := by rw [smI, inF, if_pos p_51, ← h1]; exact Int32.not_le.mp c_111
            refine lv_iload hx hb dX5_shared_114 (lv_at hl 0 rfl) ?_
            refine lv_iload_n hx hb dX5_shared_116 rfl (lv_at hl 4 rfl) ?_
            refine lv_icmp_ne (tgt := 124) hx hb dX5_shared_117 (by decide) (fun c_117 => ?_) (fun c_117 => ?_)
            ·
              refine lv_iconst (v := 0) hx hb dX5_shared_124 (by decide) ?_
              refine lv_iadd hx hb dX5_shared_125 ?_
              refine lv_istore (lv' := [(4, .int (fo + 0)), (6, .int 0), (3, .int (co + 1)), (0, .ref (α 14)), (1, .int (nI k)), (2, .int b), (5, .int (nI (ar k + t)))]) hx hb dX5_shared_126 hl (by decide) rfl (fun ls hl => ?_)
              refine lv_iinc (v := nI ((ar k + t) + 1)) (lv' := [(5, .int (nI ((ar k + t) + 1))), (4, .int (fo + 0)), (6, .int 0), (3, .int (co + 1)), (0, .ref (α 14)), (1, .int (nI k)), (2, .int b)]) hx hb dX5_shared_128 hl (k := 6) rfl (nI_1 _) (by decide) rfl (fun ls hl => ?_)
              refine lv_goto (tgt := 37) hx hb dX5_shared_131 (by decide) ?_
              exact ih k (t + 1) (co + 1) (fo + 0) (by omega) hk hbb hka (by omega) (by rw [h1, smI, inF]; first | rw [if_pos p_51] | (rw [if_neg p_51]; simp)) (by rw [h2, smI, shG]; first | (rw [if_pos ⟨p_51, hlay, hsh.trans c_117⟩]; done) | (rw [if_neg (fun z => c_117 (hsh.symm.trans z.2.2))]; done) | (rw [if_neg (fun z => hlay z.2.1)]; done) | (rw [if_neg (fun z => p_51 z.1)]; simp; done)) _ _ I ls (lv_sub hl [4, 5, 6, 3, 1, 0] rfl)
            ·
              refine lv_iconst (v := 1) hx hb dX5_shared_120 (by decide) ?_
              refine lv_goto (tgt := 125) hx hb dX5_shared_121 (by decide) ?_
              refine lv_iadd hx hb dX5_shared_125 ?_
              refine lv_istore (lv' := [(4, .int (fo + 1)), (6, .int 0), (3, .int (co + 1)), (0, .ref (α 14)), (1, .int (nI k)), (2, .int b), (5, .int (nI (ar k + t)))]) hx hb dX5_shared_126 hl (by decide) rfl (fun ls hl => ?_)
              refine lv_iinc (v := nI ((ar k + t) + 1)) (lv' := [(5, .int (nI ((ar k + t) + 1))), (4, .int (fo + 1)), (6, .int 0), (3, .int (co + 1)), (0, .ref (α 14)), (1, .int (nI k)), (2, .int b)]) hx hb dX5_shared_128 hl (k := 6) rfl (nI_1 _) (by decide) rfl (fun ls hl => ?_)
              refine lv_goto (tgt := 37) hx hb dX5_shared_131 (by decide) ?_
              exact ih k (t + 1) (co + 1) (fo + 1) (by omega) hk hbb hka (by omega) (by rw [h1, smI, inF]; first | rw [if_pos p_51] | (rw [if_neg p_51]; simp)) (by rw [h2, smI, shG]; first | (rw [if_pos ⟨p_51, hlay, hsh.trans c_117⟩]; done) | (rw [if_neg (fun z => c_117 (hsh.symm.trans z.2.2))]; done) | (rw [if_neg (fun z => hlay z.2.1)]; done) | (rw [if_neg (fun z => p_51 z.1)]; simp; done)) _ _ I ls (lv_sub hl [4, 5, 6, 3, 1, 0] rfl)
      ·
        obtain rfl : r_51 = 0 := Eq.trans q_51 (if_neg p_51)
        refine lv_if_eq (tgt := 128) hx hb dX5_shared_54 (by decide) (fun _ => ?_) (fun cc => absurd cc (by decide))
        refine lv_iinc (v := nI ((ar k + t) + 1)) (lv' := [(5, .int (nI ((ar k + t) + 1))), (0, .ref (α 14)), (1, .int (nI k)), (2, .int b), (3, .int co), (4, .int fo)]) hx hb dX5_shared_128 hl (k := 5) rfl (nI_1 _) (by decide) rfl (fun ls hl => ?_)
        refine lv_goto (tgt := 37) hx hb dX5_shared_131 (by decide) ?_
        exact ih k (t + 1) co fo (by omega) hk hbb hka (by omega) (by rw [h1, smI, inF]; first | rw [if_pos p_51] | (rw [if_neg p_51]; simp)) (by rw [h2, smI, shG]; first | (rw [if_pos ⟨p_51, hlay, hsh.trans c_117⟩]; done) | (rw [if_neg (fun z => c_117 (hsh.symm.trans z.2.2))]; done) | (rw [if_neg (fun z => hlay z.2.1)]; done) | (rw [if_neg (fun z => p_51 z.1)]; simp; done)) _ _ I ls (lv_sub hl [1, 2, 3, 4, 5, 0] rfl)
set_option maxHeartbeats 4000000 in
set_option maxRecDepth 100000 in
theorem ctX5_shared (l : Launch) (g : wG) (α : Nat → Nat) (N : Nat) (σ : wS) (sz : Nat) (a b : Int32) (n d : Nat) (ar en : Nat → Nat) (hn : σ.1 14 7 = nI n) (hn10 : n ≤ 10) (hN : 32 ≤ N) (hd : σ.1 14 2 = nI d) (hd200 : d ≤ 200) (hae : ∀ k, k < n → ar k ≤ en k) (hed : ∀ k, k < n → en k ≤ d) (har : ∀ k, k < n → σ.1 19 k = nI (ar k)) (hlast : ∀ k, k < n → (if ¬ σ.1 22 k = (-9) then σ.1 22 k else nI d - 1) = nI (en k) - 1) (hge : ∀ k, k < n → ∀ j, j < d → (σ.1 24 (201 * k + j) = (-1) ∨ ¬ σ.1 24 (201 * k + j) < 0)) : Met l yX5_shared (wM yX5_shared cX5_shared 7 (some FieldType.int)) ({ frames := 2, cells := 0, slots := 0, locals := 43 } : Room) (wPs g α N sz σ [.ref (α 14), .int a, .int b]) (va_Qi (fun r τ => r = spq n a (-1) (fun k => if ¬ b < 0 ∧ ¬ 2 < b then smI (shG (fun l => σ.1 29 (6 * k + l)) (σ.1 15) (fun l => σ.1 24 (201 * k + l)) b (ar k)) (en k - ar k) else (-1)) ∧ τ = wu σ 14 0 0) (wB g α N) (wA α N sz)) 0 0 (wA α N sz) := by
  refine w_enter (by decide) (Nat.le_of_ble_eq_true rfl) (fun p e s m args below meth c hsz X I hr hlk ls hl => ?_)
  have hA : ∀ q, s.heap.size ≤ q → wA α N sz q := fun q h => Or.inr (by omega)
  have hx := X.1.1
  have hb := X.1.2.1
  have hl : lv_has ls 7 [(0, .ref (α 14)), (1, .int a), (2, .int b)] := hl
  refine lv_aload_n hx hb dX5_shared_0 rfl (lv_at hl 0 rfl) ?_
  refine lv_iconst (v := 0) hx hb dX5_shared_1 (by decide) ?_
  refine fp5_0 X I (by omega) kfX5_66 dX5_shared_2 (fun H locs I => ?_)
  refine lv_aload_n hx hb dX5_shared_5 rfl (lv_at hl 0 rfl) ?_
  refine lv_iload_n hx hb dX5_shared_6 rfl (lv_at hl 1 rfl) ?_
  refine w_vSi X I 14 (by omega) rfl rfl (As := [.int a]) (rest := []) (ctX5_isShip l g α N (wu σ 14 0 0) a n hN hn) (wM_V kmX5_82 ki_X5_isShip ks_X5_isShip kn_X5 kc_X5_isShip) rfl rfl (n := 1) (by decide +kernel) rfl ⟨by decide, by decide⟩ hl.1 rfl (Nat.le_of_ble_eq_true rfl) ⟨Nat.zero_le _, Nat.zero_le _⟩ dX5_shared_7 (fun r_7 q_7 => ?_)
  by_cases p_7 : ¬ a < 0 ∧ ¬ nI n - 1 < a
  ·
    obtain rfl : r_7 = 1 := Eq.trans q_7 (if_pos p_7)
    obtain ⟨k, hk, rfl⟩ := m1_ok (n := n) (by omega) p_7
    refine lv_if_eq (tgt := 22) hx hb dX5_shared_10 (by decide) (fun cc => absurd cc (by decide)) (fun _ => ?_)
    refine lv_iload_n hx hb dX5_shared_13 rfl (lv_at hl 2 rfl) ?_
    refine lv_iconst (v := 0) hx hb dX5_shared_14 (by decide) ?_
    refine lv_iconst (v := 2) hx hb dX5_shared_15 (by decide) ?_
    refine w_sSi X I (As := [.int b, .int 0, .int 2]) (rest := []) (ctX5_in l g α N (wu σ 14 0 0) _ _ _ ) (wM_S kmX5_69 kt_X5_in kn_X5 kc_X5_in) rfl rfl (n := 3) (by decide +kernel) rfl ⟨by decide, by decide⟩ hl.1 rfl (Nat.le_of_ble_eq_true rfl) ⟨Nat.zero_le _, Nat.zero_le _⟩ dX5_shared_16 (fun r_16 q_16 => ?_)
    by_cases p_16 : ¬ b < 0 ∧ ¬ 2 < b
    ·
      obtain rfl : r_16 = 1 := Eq.trans q_16 (if_pos p_16)
      refine lv_if_ne (tgt := 24) hx hb dX5_shared_19 (by decide) (fun _ => ?_) (fun cc => absurd cc (by decide))
      refine lv_iconst (v := 0) hx hb dX5_shared_24 (by decide) ?_
      refine lv_istore_n (lv' := [(3, .int 0), (0, .ref (α 14)), (1, .int (nI k)), (2, .int b)]) hx hb dX5_shared_25 rfl hl (by decide) rfl (fun ls hl => ?_)
      refine lv_iconst (v := 0) hx hb dX5_shared_26 (by decide) ?_
      refine lv_istore (lv' := [(4, .int 0), (3, .int 0), (0, .ref (α 14)), (1, .int (nI k)), (2, .int b)]) hx hb dX5_shared_27 hl (by decide) rfl (fun ls hl => ?_)
      refine lv_aload_n hx hb dX5_shared_29 rfl (lv_at hl 2 rfl) ?_
      refine fg5_9 X I (by omega) kfX5_22 dX5_shared_30 ?_
      refine lv_iload_n hx hb dX5_shared_33 rfl (lv_at hl 3 rfl) ?_
      refine w_ld X I 19 (by omega) (n := 10) (k := k) (fun _ _ _ => rfl) rfl (by omega) (by decide) dX5_shared_34 ?_
      refine w_eqi (y := σ.1 19 k) (wu_o (by decide)) ?_
      refine w_eqi (y := nI (ar k)) (har k hk) ?_
      refine lv_istore (lv' := [(5, .int (nI (ar k))), (4, .int 0), (3, .int 0), (0, .ref (α 14)), (1, .int (nI k)), (2, .int b)]) hx hb dX5_shared_35 hl (by decide) rfl (fun ls hl => ?_)
      exact lpX5_shared_37 (nI k) b n d ar en X hsz hr hlk hn hn10 hN hd hd200 hae hed har hlast hge  (en k + 1) k 0 0 0 (by omega) hk p_16 rfl (by have := hae k hk; omega) rfl rfl _ _ I ls (lv_sub hl [3, 4, 5, 2, 1, 0] rfl)
    ·
      obtain rfl : r_16 = 0 := Eq.trans q_16 (if_neg p_16)
      refine lv_if_ne (tgt := 24) hx hb dX5_shared_19 (by decide) (fun cc => absurd cc (by decide)) (fun _ => ?_)
      refine lv_iconst (v := (-1)) hx hb dX5_shared_22 (by decide) ?_
      exact w_iret X I hr hlk (⟨by first | exact (spq_bad hbad).symm | (rw [spq_ok hk (by omega), if_neg p_16]; done) | (rw [hka, spq_ok hk (by omega), if_pos hbb, h2, ← e, Nat.add_sub_cancel_left]), rfl⟩) dX5_shared_23
  ·
    obtain rfl : r_7 = 0 := Eq.trans q_7 (if_neg p_7)
    have hbad := m1_bad (n := n) (by omega) p_7
    refine lv_if_eq (tgt := 22) hx hb dX5_shared_10 (by decide) (fun _ => ?_) (fun cc => absurd cc (by decide))
    refine lv_iconst (v := (-1)) hx hb dX5_shared_22 (by decide) ?_
    exact w_iret X I hr hlk (⟨by first | exact (spq_bad hbad).symm | (rw [spq_ok hk (by omega), if_neg p_16]; done) | (rw [hka, spq_ok hk (by omega), if_pos hbb, h2, ← e, Nat.add_sub_cancel_left]), rfl⟩) dX5_shared_23
end
section
variable {l : Launch} {g : wG} {α : Nat → Nat} {N : Nat} {σ : wS} {p : Program} {e : Env} {s : State} {m : MethodId} {args : Array Value} {below : List Frame} {meth : Method} {c : Code}
set_option maxHeartbeats 4000000 in
set_option maxRecDepth 100000 in
theorem ctX5_isHere (l : Launch) (g : wG) (α : Nat → Nat) (N : Nat) (σ : wS) (k d : Nat) (hN : 32 ≤ N) (hd : σ.1 14 2 = nI d) (hd200 : d ≤ 200) (hk : k ≤ 200) : Met l yX5_isHere (wM yX5_isHere cX5_isHere 2 (some FieldType.boolean)) ({ frames := 0, cells := 0, slots := 0, locals := 0 } : Room) (wPc g α N σ [.ref (α 14), .int (nI k)]) (vp_Si (fun r => r = if k < d ∧ σ.1 27 k ≤ nI d then 1 else 0)) 0 0 (fun _ => False) := by
  refine w_enterS (by decide) (Nat.le_of_ble_eq_true rfl) (fun p e s m args below meth c X I hr hlk ls hl => ?_)
  have hx := X.1.1
  have hb := X.1.2.1
  have hl : lv_has ls 2 [(0, .ref (α 14)), (1, .int (nI k))] := hl
  refine lv_iload_n hx hb dX5_isHere_0 rfl (lv_at hl 1 rfl) ?_
  refine lv_aload_n hx hb dX5_isHere_1 rfl (lv_at hl 0 rfl) ?_
  refine fg5_2 X I (by omega) kfX5_76 dX5_isHere_2 ?_
  refine w_eqi (y := nI d) hd ?_
  refine lv_icmp_ge (tgt := 25) hx hb dX5_isHere_5 (by decide) (fun c_5 => ?_) (fun c_5 => ?_)
  ·
    have c_5 : ¬ k < d := Nat.not_lt.mpr (nI_le' c_5 (by omega) (by omega))
    refine lv_iconst (v := 0) hx hb dX5_isHere_25 (by decide) ?_
    exact w_zretS X hr hlk (Or.inl rfl) (by simp [c_5]) dX5_isHere_26
  ·
    have c_5 : k < d := Nat.lt_of_not_le (fun z => c_5 (nI_le z (by omega)))
    refine lv_aload_n hx hb dX5_isHere_8 rfl (lv_at hl 0 rfl) ?_
    refine fg5_17 X I (by omega) kfX5_46 dX5_isHere_9 ?_
    refine lv_iload_n hx hb dX5_isHere_12 rfl (lv_at hl 1 rfl) ?_
    refine w_ld X I 27 (by omega) (n := 201) (k := k) (fun _ _ _ => rfl) rfl (by omega) (by decide) dX5_isHere_13 ?_
    refine lv_aload_n hx hb dX5_isHere_14 rfl (lv_at hl 0 rfl) ?_
    refine fg5_2 X I (by omega) kfX5_76 dX5_isHere_15 ?_
    refine w_eqi (y := nI d) hd ?_
    refine lv_icmp_gt (tgt := 25) hx hb dX5_isHere_18 (by decide) (fun c_18 => ?_) (fun c_18 => ?_)
    ·
      have c_18 : ¬ σ.1 27 k ≤ nI d := Int32.not_le.mpr c_18
      refine lv_iconst (v := 0) hx hb dX5_isHere_25 (by decide) ?_
      exact w_zretS X hr hlk (Or.inl rfl) (by simp [c_5, c_18]) dX5_isHere_26
    ·
      have c_18 : σ.1 27 k ≤ nI d := Int32.not_lt.mp c_18
      refine lv_iconst (v := 1) hx hb dX5_isHere_21 (by decide) ?_
      refine lv_goto (tgt := 26) hx hb dX5_isHere_22 (by decide) ?_
      exact w_zretS X hr hlk (Or.inr rfl) (by simp [c_5, c_18]) dX5_isHere_26
end
section
variable {l : Launch} {g : wG} {α : Nat → Nat} {N : Nat} {σ : wS} {p : Program} {e : Env} {s : State} {m : MethodId} {args : Array Value} {below : List Frame} {meth : Method} {c : Code}
set_option maxHeartbeats 4000000 in
set_option maxRecDepth 100000 in
theorem ctX5_letter (l : Launch) (g : wG) (α : Nat → Nat) (N : Nat) (σ : wS) (sz : Nat) (a b : Int32) (d : Nat) (hN : 32 ≤ N) (hd : σ.1 14 2 = nI d) (hd200 : d ≤ 200) : Met l yX5_letter (wM yX5_letter cX5_letter 3 (some FieldType.int)) ({ frames := 1, cells := 0, slots := 0, locals := 22 } : Room) (wPs g α N sz σ [.ref (α 14), .int a, .int b]) (va_Qi (fun r τ => r = ltF (σ.1 25) (σ.1 26) (σ.1 27) d a b ∧ τ = wu σ 14 0 0) (wB g α N) (wA α N sz)) 0 0 (wA α N sz) := by
  refine w_enter (by decide) (Nat.le_of_ble_eq_true rfl) (fun p e s m args below meth c hsz X I hr hlk ls hl => ?_)
  have hA : ∀ q, s.heap.size ≤ q → wA α N sz q := fun q h => Or.inr (by omega)
  have hx := X.1.1
  have hb := X.1.2.1
  have hl : lv_has ls 3 [(0, .ref (α 14)), (1, .int a), (2, .int b)] := hl
  refine lv_aload_n hx hb dX5_letter_0 rfl (lv_at hl 0 rfl) ?_
  refine lv_iconst (v := 0) hx hb dX5_letter_1 (by decide) ?_
  refine fp5_0 X I (by omega) kfX5_66 dX5_letter_2 (fun H locs I => ?_)
  refine lv_iload_n hx hb dX5_letter_5 rfl (lv_at hl 1 rfl) ?_
  refine lv_iconst (v := 0) hx hb dX5_letter_6 (by decide) ?_
  refine lv_sipush (v := 200) hx hb dX5_letter_7 (by decide) ?_
  refine w_sSi X I (As := [.int a, .int 0, .int 200]) (rest := []) (ctX5_in l g α N (wu σ 14 0 0) _ _ _ ) (wM_S kmX5_69 kt_X5_in kn_X5 kc_X5_in) rfl rfl (n := 3) (by decide +kernel) rfl ⟨by decide, by decide⟩ hl.1 rfl (Nat.le_of_ble_eq_true rfl) ⟨Nat.zero_le _, Nat.zero_le _⟩ dX5_letter_10 (fun r_10 q_10 => ?_)
  by_cases p_10 : ¬ a < 0 ∧ ¬ 200 < a
  ·
    obtain rfl : r_10 = 1 := Eq.trans q_10 (if_pos p_10)
    refine lv_if_eq (tgt := 25) hx hb dX5_letter_13 (by decide) (fun cc => absurd cc (by decide)) (fun _ => ?_)
    refine lv_iload_n hx hb dX5_letter_16 rfl (lv_at hl 2 rfl) ?_
    refine lv_iconst (v := 0) hx hb dX5_letter_17 (by decide) ?_
    refine lv_iconst (v := 2) hx hb dX5_letter_18 (by decide) ?_
    refine w_sSi X I (As := [.int b, .int 0, .int 2]) (rest := []) (ctX5_in l g α N (wu σ 14 0 0) _ _ _ ) (wM_S kmX5_69 kt_X5_in kn_X5 kc_X5_in) rfl rfl (n := 3) (by decide +kernel) rfl ⟨by decide, by decide⟩ hl.1 rfl (Nat.le_of_ble_eq_true rfl) ⟨Nat.zero_le _, Nat.zero_le _⟩ dX5_letter_19 (fun r_19 q_19 => ?_)
    by_cases p_19 : ¬ b < 0 ∧ ¬ 2 < b
    ·
      obtain rfl : r_19 = 1 := Eq.trans q_19 (if_pos p_19)
      obtain ⟨k, hk, rfl⟩ := nI_btw (n := 200) p_10.1 p_10.2 (by decide)
      refine lv_if_ne (tgt := 27) hx hb dX5_letter_22 (by decide) (fun _ => ?_) (fun cc => absurd cc (by decide))
      refine lv_aload_n hx hb dX5_letter_27 rfl (lv_at hl 0 rfl) ?_
      refine lv_iload_n hx hb dX5_letter_28 rfl (lv_at hl 1 rfl) ?_
      refine w_vSi X I 14 (by omega) rfl rfl (As := [.int (nI k)]) (rest := []) (ctX5_isHere l g α N (wu σ 14 0 0) k d hN hd hd200 hk) (wM_V kmX5_140 ki_X5_isHere ks_X5_isHere kn_X5 kc_X5_isHere) rfl rfl (n := 1) (by decide +kernel) rfl ⟨by decide, by decide⟩ hl.1 rfl (Nat.le_of_ble_eq_true rfl) ⟨Nat.zero_le _, Nat.zero_le _⟩ dX5_letter_29 (fun r_29 q_29 => ?_)
      by_cases p_29 : k < d ∧ σ.1 27 k ≤ nI d
      ·
        obtain rfl : r_29 = 1 := Eq.trans q_29 (if_pos p_29)
        refine lv_if_ne (tgt := 40) hx hb dX5_letter_32 (by decide) (fun _ => ?_) (fun cc => absurd cc (by decide))
        refine lv_iload_n hx hb dX5_letter_40 rfl (lv_at hl 2 rfl) ?_
        refine lv_if_ne (tgt := 53) hx hb dX5_letter_41 (by decide) (fun c_41 => ?_) (fun c_41 => ?_)
        ·
          refine lv_iload_n hx hb dX5_letter_53 rfl (lv_at hl 2 rfl) ?_
          refine lv_iconst (v := 1) hx hb dX5_letter_54 (by decide) ?_
          refine lv_icmp_ne (tgt := 67) hx hb dX5_letter_55 (by decide) (fun c_55 => ?_) (fun c_55 => ?_)
          ·
            refine lv_aload_n hx hb dX5_letter_67 rfl (lv_at hl 0 rfl) ?_
            refine fg5_17 X I (by omega) kfX5_46 dX5_letter_68 ?_
            refine lv_iload_n hx hb dX5_letter_71 rfl (lv_at hl 1 rfl) ?_
            refine w_ld X I 27 (by omega) (n := 201) (k := k) (fun _ _ _ => rfl) rfl (by omega) (by decide) dX5_letter_72 ?_
            refine w_eqi (y := σ.1 27 k) (wu_o (by decide)) ?_
            exact w_iret X I hr hlk (⟨by first | (rw [ltF, if_neg p_10]; done) | (rw [ltF, if_pos p_10, if_neg p_19]; done) | (rw [ltF, if_pos p_10, if_pos p_19, spq_ok p_29.1 (by omega), if_pos p_29.2, if_pos c_41]; done) | (rw [ltF, if_pos p_10, if_pos p_19, spq_ok p_29.1 (by omega), if_pos p_29.2, if_neg c_41, if_pos c_55]; done) | (rw [ltF, if_pos p_10, if_pos p_19, spq_ok p_29.1 (by omega), if_pos p_29.2, if_neg c_41, if_neg c_55]; done) | (rw [ltF, if_pos p_10, if_pos p_19]; rcases Nat.lt_or_ge k d with z | z; exact ((spq_ok z (by omega)).trans (if_neg (fun w => p_29 ⟨z, w⟩))).symm; exact (spq_bad (Or.inr (nI_le z (by omega)))).symm), rfl⟩) dX5_letter_73
          ·
            refine lv_aload_n hx hb dX5_letter_58 rfl (lv_at hl 0 rfl) ?_
            refine fg5_16 X I (by omega) kfX5_43 dX5_letter_59 ?_
            refine lv_iload_n hx hb dX5_letter_62 rfl (lv_at hl 1 rfl) ?_
            refine w_ld X I 26 (by omega) (n := 201) (k := k) (fun _ _ _ => rfl) rfl (by omega) (by decide) dX5_letter_63 ?_
            refine w_eqi (y := σ.1 26 k) (wu_o (by decide)) ?_
            refine lv_goto (tgt := 73) hx hb dX5_letter_64 (by decide) ?_
            exact w_iret X I hr hlk (⟨by first | (rw [ltF, if_neg p_10]; done) | (rw [ltF, if_pos p_10, if_neg p_19]; done) | (rw [ltF, if_pos p_10, if_pos p_19, spq_ok p_29.1 (by omega), if_pos p_29.2, if_pos c_41]; done) | (rw [ltF, if_pos p_10, if_pos p_19, spq_ok p_29.1 (by omega), if_pos p_29.2, if_neg c_41, if_pos c_55]; done) | (rw [ltF, if_pos p_10, if_pos p_19, spq_ok p_29.1 (by omega), if_pos p_29.2, if_neg c_41, if_neg c_55]; done) | (rw [ltF, if_pos p_10, if_pos p_19]; rcases Nat.lt_or_ge k d with z | z; exact ((spq_ok z (by omega)).trans (if_neg (fun w => p_29 ⟨z, w⟩))).symm; exact (spq_bad (Or.inr (nI_le z (by omega)))).symm), rfl⟩) dX5_letter_73
        ·
          refine lv_aload_n hx hb dX5_letter_44 rfl (lv_at hl 0 rfl) ?_
          refine fg5_15 X I (by omega) kfX5_40 dX5_letter_45 ?_
          refine lv_iload_n hx hb dX5_letter_48 rfl (lv_at hl 1 rfl) ?_
          refine w_ld X I 25 (by omega) (n := 201) (k := k) (fun _ _ _ => rfl) rfl (by omega) (by decide) dX5_letter_49 ?_
          refine w_eqi (y := σ.1 25 k) (wu_o (by decide)) ?_
          refine lv_goto (tgt := 73) hx hb dX5_letter_50 (by decide) ?_
          exact w_iret X I hr hlk (⟨by first | (rw [ltF, if_neg p_10]; done) | (rw [ltF, if_pos p_10, if_neg p_19]; done) | (rw [ltF, if_pos p_10, if_pos p_19, spq_ok p_29.1 (by omega), if_pos p_29.2, if_pos c_41]; done) | (rw [ltF, if_pos p_10, if_pos p_19, spq_ok p_29.1 (by omega), if_pos p_29.2, if_neg c_41, if_pos c_55]; done) | (rw [ltF, if_pos p_10, if_pos p_19, spq_ok p_29.1 (by omega), if_pos p_29.2, if_neg c_41, if_neg c_55]; done) | (rw [ltF, if_pos p_10, if_pos p_19]; rcases Nat.lt_or_ge k d with z | z; exact ((spq_ok z (by omega)).trans (if_neg (fun w => p_29 ⟨z, w⟩))).symm; exact (spq_bad (Or.inr (nI_le z (by omega)))).symm), rfl⟩) dX5_letter_73
      ·
        obtain rfl : r_29 = 0 := Eq.trans q_29 (if_neg p_29)
        refine lv_if_ne (tgt := 40) hx hb dX5_letter_32 (by decide) (fun cc => absurd cc (by decide)) (fun _ => ?_)
        refine lv_bipush (v := (-9)) hx hb dX5_letter_35 (by decide) ?_
        refine lv_goto (tgt := 73) hx hb dX5_letter_37 (by decide) ?_
        exact w_iret X I hr hlk (⟨by first | (rw [ltF, if_neg p_10]; done) | (rw [ltF, if_pos p_10, if_neg p_19]; done) | (rw [ltF, if_pos p_10, if_pos p_19, spq_ok p_29.1 (by omega), if_pos p_29.2, if_pos c_41]; done) | (rw [ltF, if_pos p_10, if_pos p_19, spq_ok p_29.1 (by omega), if_pos p_29.2, if_neg c_41, if_pos c_55]; done) | (rw [ltF, if_pos p_10, if_pos p_19, spq_ok p_29.1 (by omega), if_pos p_29.2, if_neg c_41, if_neg c_55]; done) | (rw [ltF, if_pos p_10, if_pos p_19]; rcases Nat.lt_or_ge k d with z | z; exact ((spq_ok z (by omega)).trans (if_neg (fun w => p_29 ⟨z, w⟩))).symm; exact (spq_bad (Or.inr (nI_le z (by omega)))).symm), rfl⟩) dX5_letter_73
    ·
      obtain rfl : r_19 = 0 := Eq.trans q_19 (if_neg p_19)
      refine lv_if_ne (tgt := 27) hx hb dX5_letter_22 (by decide) (fun cc => absurd cc (by decide)) (fun _ => ?_)
      refine lv_iconst (v := (-1)) hx hb dX5_letter_25 (by decide) ?_
      exact w_iret X I hr hlk (⟨by first | (rw [ltF, if_neg p_10]; done) | (rw [ltF, if_pos p_10, if_neg p_19]; done) | (rw [ltF, if_pos p_10, if_pos p_19, spq_ok p_29.1 (by omega), if_pos p_29.2, if_pos c_41]; done) | (rw [ltF, if_pos p_10, if_pos p_19, spq_ok p_29.1 (by omega), if_pos p_29.2, if_neg c_41, if_pos c_55]; done) | (rw [ltF, if_pos p_10, if_pos p_19, spq_ok p_29.1 (by omega), if_pos p_29.2, if_neg c_41, if_neg c_55]; done) | (rw [ltF, if_pos p_10, if_pos p_19]; rcases Nat.lt_or_ge k d with z | z; exact ((spq_ok z (by omega)).trans (if_neg (fun w => p_29 ⟨z, w⟩))).symm; exact (spq_bad (Or.inr (nI_le z (by omega)))).symm), rfl⟩) dX5_letter_26
  ·
    obtain rfl : r_10 = 0 := Eq.trans q_10 (if_neg p_10)
    refine lv_if_eq (tgt := 25) hx hb dX5_letter_13 (by decide) (fun _ => ?_) (fun cc => absurd cc (by decide))
    refine lv_iconst (v := (-1)) hx hb dX5_letter_25 (by decide) ?_
    exact w_iret X I hr hlk (⟨by first | (rw [ltF, if_neg p_10]; done) | (rw [ltF, if_pos p_10, if_neg p_19]; done) | (rw [ltF, if_pos p_10, if_pos p_19, spq_ok p_29.1 (by omega), if_pos p_29.2, if_pos c_41]; done) | (rw [ltF, if_pos p_10, if_pos p_19, spq_ok p_29.1 (by omega), if_pos p_29.2, if_neg c_41, if_pos c_55]; done) | (rw [ltF, if_pos p_10, if_pos p_19, spq_ok p_29.1 (by omega), if_pos p_29.2, if_neg c_41, if_neg c_55]; done) | (rw [ltF, if_pos p_10, if_pos p_19]; rcases Nat.lt_or_ge k d with z | z; exact ((spq_ok z (by omega)).trans (if_neg (fun w => p_29 ⟨z, w⟩))).symm; exact (spq_bad (Or.inr (nI_le z (by omega)))).symm), rfl⟩) dX5_letter_26
end
section
variable {l : Launch} {g : wG} {α : Nat → Nat} {N : Nat} {σ : wS} {p : Program} {e : Env} {s : State} {m : MethodId} {args : Array Value} {below : List Frame} {meth : Method} {c : Code}
set_option maxHeartbeats 4000000 in
set_option maxRecDepth 100000 in
theorem lpX5_foretold_57 {sz : Nat} (d : Nat) (X : wX p s m args c cX5_foretold 5 RX5 g) (hsz : s.heap.size = sz) (hr : meth.sig.returnType = (some FieldType.int)) (hlk : meth.locks = false) (hN : 32 ≤ N) (hd : σ.1 14 2 = nI d) (hd200 : d ≤ 200) : ∀ (fu : Nat) (j : Nat) (t : Nat) (acc : Int32), j + 2 ≤ j - 6 + t + fu → j < d → lcO (σ.1 27) (nI d) d = some j → j - 6 + t ≤ j + 1 → acc = smI (fun t => σ.1 26 (j - 6 + t)) t → ∀ (H : Heap) (locs : List Loc), wI g α N (wA α N sz) s.heap H locs (wu σ 14 0 0) → ∀ ls : Array Slot, lv_has ls 5 [(0, .ref (α 14)), (1, .int (nI (j + 1) - 1)), (2, .int acc), (3, .int (nI t)), (4, .int (nI (j - 6 + t)))] → W p l e ({ frames := 1, cells := 0, slots := 0, locals := 21 } : Room) s m args below meth c H locs 0 0 (MQ below (va_Qi (fun r τ => r = fgO (σ.1 25) (σ.1 26) (lcO (σ.1 27) (nI d) d) ∧ τ = wu σ 14 0 0) (wB g α N) (wA α N sz)) args s 0 0 (wA α N sz)) (F0 m 57 ls []) := by
  have hA : ∀ q, s.heap.size ≤ q → wA α N sz q := fun q h => Or.inr (by omega)
  have hx := X.1.1
  have hb := X.1.2.1
  intro fu
  induction fu with
  | zero =>
    intro j t acc hfu hj hlc ht hac
    exact absurd hfu (by omega)
  | succ fu ih =>
    intro j t acc hfu hj hlc ht hac H locs I ls hl
    refine lv_iload hx hb dX5_foretold_57 (lv_at hl 4 rfl) ?_
    refine lv_iload_n hx hb dX5_foretold_59 rfl (lv_at hl 1 rfl) ?_
    refine w_eqi (y := nI j) (nI_pred _) ?_
    refine lv_icmp_gt (tgt := 82) hx hb dX5_foretold_60 (by decide) (fun c_60 => ?_) (fun c_60 => ?_)
    ·
      have e : t = j + 1 - (j - 6) := by have := nI_lt' c_60 (by omega) (by omega); omega
      refine lv_iload_n hx hb dX5_foretold_82 rfl (lv_at hl 2 rfl) ?_
      refine lv_if_ne (tgt := 91) hx hb dX5_foretold_83 (by decide) (fun c_83 => ?_) (fun c_83 => ?_)
      ·
        refine lv_aload_n hx hb dX5_foretold_91 rfl (lv_at hl 0 rfl) ?_
        refine fg5_15 X I (by omega) kfX5_40 dX5_foretold_92 ?_
        refine lv_iload_n hx hb dX5_foretold_95 rfl (lv_at hl 1 rfl) ?_
        refine w_eqi (y := nI j) (nI_pred _) ?_
        refine w_ld X I 25 (by omega) (n := 201) (k := j) (fun _ _ _ => rfl) rfl (by omega) (by decide) dX5_foretold_96 ?_
        refine lv_iload_n hx hb dX5_foretold_97 rfl (lv_at hl 3 rfl) ?_
        refine lv_imul hx hb dX5_foretold_98 ?_
        refine lv_iload_n hx hb dX5_foretold_99 rfl (lv_at hl 2 rfl) ?_
        refine lv_iadd hx hb dX5_foretold_100 ?_
        refine lv_iconst (v := 1) hx hb dX5_foretold_101 (by decide) ?_
        refine lv_isub hx hb dX5_foretold_102 ?_
        refine lv_iload_n hx hb dX5_foretold_103 rfl (lv_at hl 2 rfl) ?_
        refine lv_idiv hx hb dX5_foretold_104 c_83 ?_
        exact w_iret X I hr hlk (⟨by first | (rw [ha]; rfl) | (subst e; subst hac; rw [hlc]; first | exact (if_pos c_83).symm | exact (if_neg c_83).symm), rfl⟩) dX5_foretold_105
      ·
        refine lv_bipush (v := (-9)) hx hb dX5_foretold_86 (by decide) ?_
        refine lv_goto (tgt := 105) hx hb dX5_foretold_88 (by decide) ?_
        exact w_iret X I hr hlk (⟨by first | (rw [ha]; rfl) | (subst e; subst hac; rw [hlc]; first | exact (if_pos c_83).symm | exact (if_neg c_83).symm), rfl⟩) dX5_foretold_105
    ·
      have hlt : j - 6 + t ≤ j := Nat.le_of_not_lt (fun z => c_60 (nI_lt z (by omega)))
      refine lv_iload_n hx hb dX5_foretold_63 rfl (lv_at hl 2 rfl) ?_
      refine lv_aload_n hx hb dX5_foretold_64 rfl (lv_at hl 0 rfl) ?_
      refine fg5_16 X I (by omega) kfX5_43 dX5_foretold_65 ?_
      refine lv_iload hx hb dX5_foretold_68 (lv_at hl 4 rfl) ?_
      refine w_ld X I 26 (by omega) (n := 201) (k := j - 6 + t) (fun _ _ _ => rfl) rfl (by omega) (by decide) dX5_foretold_70 ?_
      refine lv_iadd hx hb dX5_foretold_71 ?_
      refine lv_istore_n (lv' := [(2, .int (acc + ((wu σ 14 0 0).1 26 (j - 6 + t)))), (0, .ref (α 14)), (1, .int (nI (j + 1) - 1)), (3, .int (nI t)), (4, .int (nI (j - 6 + t)))]) hx hb dX5_foretold_72 rfl hl (by decide) rfl (fun ls hl => ?_)
      refine lv_iinc (v := nI (t + 1)) (lv' := [(3, .int (nI (t + 1))), (2, .int (acc + ((wu σ 14 0 0).1 26 (j - 6 + t)))), (0, .ref (α 14)), (1, .int (nI (j + 1) - 1)), (4, .int (nI (j - 6 + t)))]) hx hb dX5_foretold_73 hl (k := 3) rfl (nI_1 _) (by decide) rfl (fun ls hl => ?_)
      refine lv_iinc (v := nI ((j - 6 + t) + 1)) (lv' := [(4, .int (nI ((j - 6 + t) + 1))), (3, .int (nI (t + 1))), (2, .int (acc + ((wu σ 14 0 0).1 26 (j - 6 + t)))), (0, .ref (α 14)), (1, .int (nI (j + 1) - 1))]) hx hb dX5_foretold_76 hl (k := 4) rfl (nI_1 _) (by decide) rfl (fun ls hl => ?_)
      refine lv_goto (tgt := 57) hx hb dX5_foretold_79 (by decide) ?_
      exact ih j (t + 1) (acc + ((wu σ 14 0 0).1 26 (j - 6 + t))) (by omega) (by omega) hlc (by omega) (by rw [hac]; rfl) _ _ I ls (lv_sub hl [3, 4, 2, 1, 0] rfl)
set_option maxHeartbeats 4000000 in
set_option maxRecDepth 100000 in
theorem lpX5_foretold_12 {sz : Nat} (d : Nat) (X : wX p s m args c cX5_foretold 5 RX5 g) (hsz : s.heap.size = sz) (hr : meth.sig.returnType = (some FieldType.int)) (hlk : meth.locks = false) (hN : 32 ≤ N) (hd : σ.1 14 2 = nI d) (hd200 : d ≤ 200) : ∀ (fu : Nat) (j : Nat), j + 1 ≤ fu → j ≤ d → lcO (σ.1 27) (nI d) d = lcO (σ.1 27) (nI d) j → ∀ (H : Heap) (locs : List Loc), wI g α N (wA α N sz) s.heap H locs (wu σ 14 0 0) → ∀ ls : Array Slot, lv_has ls 5 [(0, .ref (α 14)), (1, .int (nI j - 1))] → W p l e ({ frames := 1, cells := 0, slots := 0, locals := 21 } : Room) s m args below meth c H locs 0 0 (MQ below (va_Qi (fun r τ => r = fgO (σ.1 25) (σ.1 26) (lcO (σ.1 27) (nI d) d) ∧ τ = wu σ 14 0 0) (wB g α N) (wA α N sz)) args s 0 0 (wA α N sz)) (F0 m 12 ls []) := by
  have hA : ∀ q, s.heap.size ≤ q → wA α N sz q := fun q h => Or.inr (by omega)
  have hx := X.1.1
  have hb := X.1.2.1
  intro fu
  induction fu with
  | zero =>
    intro j hfu hj ha
    exact absurd hfu (by omega)
  | succ fu ih =>
    intro j hfu hj ha H locs I ls hl
    refine lv_iload_n hx hb dX5_foretold_12 rfl (lv_at hl 1 rfl) ?_
    refine lv_if_lt (tgt := 30) hx hb dX5_foretold_13 (by decide) (fun c_13 => ?_) (fun c_13 => ?_)
    ·
      obtain rfl : j = 0 := (m1_neg (by omega)).mp c_13
      refine lv_iload_n hx hb dX5_foretold_30 rfl (lv_at hl 1 rfl) ?_
      refine lv_if_ge (tgt := 37) hx hb dX5_foretold_31 (by decide) (fun cc => absurd cc (by decide)) (fun _ => ?_)
      refine lv_bipush (v := (-9)) hx hb dX5_foretold_34 (by decide) ?_
      exact w_iret X I hr hlk (⟨by first | (rw [ha]; rfl) | (subst e; subst hac; rw [hlc]; first | exact (if_pos c_83).symm | exact (if_neg c_83).symm), rfl⟩) dX5_foretold_36
    ·
      obtain ⟨j', rfl⟩ : ∃ j', j = j' + 1 := ⟨j - 1, by have h0 : ¬ j = 0 := fun z => c_13 ((m1_neg (j := j) (by omega)).mpr z); omega⟩
      refine lv_aload_n hx hb dX5_foretold_16 rfl (lv_at hl 0 rfl) ?_
      refine lv_iload_n hx hb dX5_foretold_17 rfl (lv_at hl 1 rfl) ?_
      refine w_eqi (y := nI j') (nI_pred _) ?_
      refine w_vSi X I 14 (by omega) rfl rfl (As := [.int (nI j')]) (rest := []) (ctX5_isHere l g α N (wu σ 14 0 0) j' d hN hd hd200 (by omega)) (wM_V kmX5_140 ki_X5_isHere ks_X5_isHere kn_X5 kc_X5_isHere) rfl rfl (n := 1) (by decide +kernel) rfl ⟨by decide, by decide⟩ hl.1 rfl (Nat.le_of_ble_eq_true rfl) ⟨Nat.zero_le _, Nat.zero_le _⟩ dX5_foretold_18 (fun r_18 q_18 => ?_)
      by_cases p_18 : j' < d ∧ σ.1 27 j' ≤ nI d
      ·
        obtain rfl : r_18 = 1 := Eq.trans q_18 (if_pos p_18)
        refine lv_if_ne (tgt := 30) hx hb dX5_foretold_21 (by decide) (fun _ => ?_) (fun cc => absurd cc (by decide))
        refine lv_iload_n hx hb dX5_foretold_30 rfl (lv_at hl 1 rfl) ?_
        refine w_eqi (y := nI j') (nI_pred _) ?_
        refine lv_if_ge (tgt := 37) hx hb dX5_foretold_31 (by decide) (fun _ => ?_) (fun cc => absurd (nI_pos' (by omega)) cc)
        refine lv_iconst (v := 0) hx hb dX5_foretold_37 (by decide) ?_
        refine lv_istore_n (lv' := [(2, .int 0), (0, .ref (α 14)), (1, .int (nI (j' + 1) - 1))]) hx hb dX5_foretold_38 rfl hl (by decide) rfl (fun ls hl => ?_)
        refine lv_iconst (v := 0) hx hb dX5_foretold_39 (by decide) ?_
        refine lv_istore_n (lv' := [(3, .int 0), (2, .int 0), (0, .ref (α 14)), (1, .int (nI (j' + 1) - 1))]) hx hb dX5_foretold_40 rfl hl (by decide) rfl (fun ls hl => ?_)
        refine lv_iload_n hx hb dX5_foretold_41 rfl (lv_at hl 3 rfl) ?_
        refine w_eqi (y := nI j') (nI_pred _) ?_
        refine lv_bipush (v := 6) hx hb dX5_foretold_42 (by decide) ?_
        refine lv_icmp_ge (tgt := 51) hx hb dX5_foretold_44 (by decide) (fun c_44 => ?_) (fun c_44 => ?_)
        ·
          have h6 : 6 ≤ j' := nI_le' (a := 6) c_44 (by decide) (by omega)
          refine lv_iload_n hx hb dX5_foretold_51 rfl (lv_at hl 3 rfl) ?_
          refine w_eqi (y := nI j') (nI_pred _) ?_
          refine lv_bipush (v := 6) hx hb dX5_foretold_52 (by decide) ?_
          refine lv_isub hx hb dX5_foretold_54 ?_
          refine w_eqi (y := nI (j' - 6)) (pk_sub (b := 6) h6) ?_
          refine lv_istore (lv' := [(4, .int (nI (j' - 6))), (3, .int 0), (2, .int 0), (0, .ref (α 14)), (1, .int (nI (j' + 1) - 1))]) hx hb dX5_foretold_55 hl (by decide) rfl (fun ls hl => ?_)
          exact lpX5_foretold_57 d X hsz hr hlk hN hd hd200  (j' + 2) j' 0 0 (by omega) (by omega) (by rw [ha, lcO, if_pos p_18.2]) (by omega) rfl _ _ I ls (lv_sub hl [3, 4, 2, 1, 0] rfl)
        ·
          have h6 : j' < 6 := Nat.lt_of_not_le (fun z => c_44 (nI_le (a := 6) z (by omega)))
          refine lv_iconst (v := 0) hx hb dX5_foretold_47 (by decide) ?_
          refine w_eqi (y := nI (j' - 6)) (by rw [show j' - 6 = 0 by omega]; rfl) ?_
          refine lv_goto (tgt := 55) hx hb dX5_foretold_48 (by decide) ?_
          refine lv_istore (lv' := [(4, .int (nI (j' - 6))), (3, .int 0), (2, .int 0), (0, .ref (α 14)), (1, .int (nI (j' + 1) - 1))]) hx hb dX5_foretold_55 hl (by decide) rfl (fun ls hl => ?_)
          exact lpX5_foretold_57 d X hsz hr hlk hN hd hd200  (j' + 2) j' 0 0 (by omega) (by omega) (by rw [ha, lcO, if_pos p_18.2]) (by omega) rfl _ _ I ls (lv_sub hl [3, 4, 2, 1, 0] rfl)
      ·
        obtain rfl : r_18 = 0 := Eq.trans q_18 (if_neg p_18)
        refine lv_if_ne (tgt := 30) hx hb dX5_foretold_21 (by decide) (fun cc => absurd cc (by decide)) (fun _ => ?_)
        refine lv_iinc (v := nI j' - 1) (lv' := [(1, .int (nI j' - 1)), (0, .ref (α 14))]) hx hb dX5_foretold_24 hl (k := 1) rfl (by rw [nI_pred]; exact m1e _) (by decide) rfl (fun ls hl => ?_)
        refine lv_goto (tgt := 12) hx hb dX5_foretold_27 (by decide) ?_
        exact ih j' (by omega) (by omega) (by rw [ha, lcO, if_neg (fun w => p_18 ⟨by omega, w⟩)]) _ _ I ls (lv_sub hl [1, 0] rfl)
set_option maxHeartbeats 4000000 in
set_option maxRecDepth 100000 in
theorem ctX5_foretold (l : Launch) (g : wG) (α : Nat → Nat) (N : Nat) (σ : wS) (sz : Nat) (d : Nat) (hN : 32 ≤ N) (hd : σ.1 14 2 = nI d) (hd200 : d ≤ 200) : Met l yX5_foretold (wM yX5_foretold cX5_foretold 5 (some FieldType.int)) ({ frames := 1, cells := 0, slots := 0, locals := 21 } : Room) (wPs g α N sz σ [.ref (α 14)]) (va_Qi (fun r τ => r = fgO (σ.1 25) (σ.1 26) (lcO (σ.1 27) (nI d) d) ∧ τ = wu σ 14 0 0) (wB g α N) (wA α N sz)) 0 0 (wA α N sz) := by
  refine w_enter (by decide) (Nat.le_of_ble_eq_true rfl) (fun p e s m args below meth c hsz X I hr hlk ls hl => ?_)
  have hA : ∀ q, s.heap.size ≤ q → wA α N sz q := fun q h => Or.inr (by omega)
  have hx := X.1.1
  have hb := X.1.2.1
  have hl : lv_has ls 5 [(0, .ref (α 14))] := hl
  refine lv_aload_n hx hb dX5_foretold_0 rfl (lv_at hl 0 rfl) ?_
  refine lv_iconst (v := 0) hx hb dX5_foretold_1 (by decide) ?_
  refine fp5_0 X I (by omega) kfX5_66 dX5_foretold_2 (fun H locs I => ?_)
  refine lv_aload_n hx hb dX5_foretold_5 rfl (lv_at hl 0 rfl) ?_
  refine fg5_2 X I (by omega) kfX5_76 dX5_foretold_6 ?_
  refine w_eqi (y := σ.1 14 2) (wu_d (by decide)) ?_
  refine w_eqi (y := nI d) hd ?_
  refine lv_iconst (v := 1) hx hb dX5_foretold_9 (by decide) ?_
  refine lv_isub hx hb dX5_foretold_10 ?_
  refine lv_istore_n (lv' := [(1, .int ((nI d) - 1)), (0, .ref (α 14))]) hx hb dX5_foretold_11 rfl hl (by decide) rfl (fun ls hl => ?_)
  exact lpX5_foretold_12 d X hsz hr hlk hN hd hd200  (d + 1) d (by omega) (by omega) rfl _ _ I ls (lv_sub hl [1, 0] rfl)
end
section
variable {l : Launch} {g : wG} {α : Nat → Nat} {N : Nat} {σ : wS} {p : Program} {e : Env} {s : State} {m : MethodId} {args : Array Value} {below : List Frame} {meth : Method} {c : Code}
set_option maxHeartbeats 4000000 in
set_option maxRecDepth 100000 in
theorem lpX5_count_12 {sz : Nat} (a : Int32) (n d ly dr : Nat) (X : wX p s m args c cX5_count 5 RX5 g) (hsz : s.heap.size = sz) (hr : meth.sig.returnType = (some FieldType.int)) (hlk : meth.locks = false) (hn : σ.1 14 7 = nI n) (hn10 : n ≤ 10) (hN : 32 ≤ N) (hd : σ.1 14 2 = nI d) (hd200 : d ≤ 200) (hz : σ.1 14 4 = nI ly) (hly : ly ≤ 6) (hdr : σ.1 14 21 = nI dr) (hdr30 : dr ≤ 30) : ∀ (fu : Nat) (k : Nat) (fl : Int32) (dy : Int32), n + 1 ≤ k + fu → k ≤ n → fl = smI (fun i => if ¬ σ.1 22 i = (-9) then 1 else 0) k → dy = smI (fun i => if σ.1 22 i = (-9) ∧ σ.1 21 i = 0 then 1 else 0) k → ∀ (H : Heap) (locs : List Loc), wI g α N (wA α N sz) s.heap H locs (wu σ 14 0 0) → ∀ ls : Array Slot, lv_has ls 5 [(0, .ref (α 14)), (1, .int a), (2, .int fl), (3, .int dy), (4, .int (nI k))] → W p l e ({ frames := 1, cells := 0, slots := 0, locals := 21 } : Room) s m args below meth c H locs 0 0 (MQ below (va_Qi (fun r τ => r = abF (nI d) (nI n) (nI ly) (smI (fun i => if ¬ σ.1 22 i = (-9) then 1 else 0) n) (σ.1 14 19) (nI dr) (smI (fun i => if σ.1 22 i = (-9) ∧ σ.1 21 i = 0 then 1 else 0) n) a ∧ τ = wu σ 14 0 0) (wB g α N) (wA α N sz)) args s 0 0 (wA α N sz)) (F0 m 12 ls []) := by
  have hA : ∀ q, s.heap.size ≤ q → wA α N sz q := fun q h => Or.inr (by omega)
  have hx := X.1.1
  have hb := X.1.2.1
  intro fu
  induction fu with
  | zero =>
    intro k fl dy hfu hk h1 h2
    exact absurd hfu (by omega)
  | succ fu ih =>
    intro k fl dy hfu hk h1 h2 H locs I ls hl
    refine lv_iload hx hb dX5_count_12 (lv_at hl 4 rfl) ?_
    refine lv_aload_n hx hb dX5_count_14 rfl (lv_at hl 0 rfl) ?_
    refine fg5_7 X I (by omega) kfX5_79 dX5_count_15 ?_
    refine w_eqi (y := nI n) hn ?_
    refine lv_icmp_ge (tgt := 71) hx hb dX5_count_18 (by decide) (fun c_18 => ?_) (fun c_18 => ?_)
    ·
      have e : k = n := by have := nI_le' c_18 (by omega) (by omega); omega
      refine lv_iload_n hx hb dX5_count_71 rfl (lv_at hl 1 rfl) ?_
      rcases sw7 a with rfl | rfl | rfl | rfl | rfl | rfl | rfl | hsw
      ·
        refine lv_tableIn (tgt := 116) (off := 44) hx hb dX5_count_72 (by decide) (by decide) rfl (by decide) ?_
        refine lv_aload_n hx hb dX5_count_116 rfl (lv_at hl 0 rfl) ?_
        refine fg5_2 X I (by omega) kfX5_76 dX5_count_117 ?_
        refine w_eqi (y := nI d) hd ?_
        exact w_iret X I hr hlk (⟨by subst e; subst h1; subst h2; first | (simp [abF]; done) | (simp [abF]; rfl) | (simp [abF, hsw]; done), rfl⟩) dX5_count_120
      ·
        refine lv_tableIn (tgt := 121) (off := 49) hx hb dX5_count_72 (by decide) (by decide) rfl (by decide) ?_
        refine lv_aload_n hx hb dX5_count_121 rfl (lv_at hl 0 rfl) ?_
        refine fg5_7 X I (by omega) kfX5_79 dX5_count_122 ?_
        refine w_eqi (y := nI n) hn ?_
        exact w_iret X I hr hlk (⟨by subst e; subst h1; subst h2; first | (simp [abF]; done) | (simp [abF]; rfl) | (simp [abF, hsw]; done), rfl⟩) dX5_count_125
      ·
        refine lv_tableIn (tgt := 126) (off := 54) hx hb dX5_count_72 (by decide) (by decide) rfl (by decide) ?_
        refine lv_aload_n hx hb dX5_count_126 rfl (lv_at hl 0 rfl) ?_
        refine fg5_4 X I (by omega) kfX5_73 dX5_count_127 ?_
        refine w_eqi (y := nI ly) hz ?_
        exact w_iret X I hr hlk (⟨by subst e; subst h1; subst h2; first | (simp [abF]; done) | (simp [abF]; rfl) | (simp [abF, hsw]; done), rfl⟩) dX5_count_130
      ·
        refine lv_tableIn (tgt := 131) (off := 59) hx hb dX5_count_72 (by decide) (by decide) rfl (by decide) ?_
        refine lv_iload_n hx hb dX5_count_131 rfl (lv_at hl 2 rfl) ?_
        exact w_iret X I hr hlk (⟨by subst e; subst h1; subst h2; first | (simp [abF]; done) | (simp [abF]; rfl) | (simp [abF, hsw]; done), rfl⟩) dX5_count_132
      ·
        refine lv_tableIn (tgt := 133) (off := 61) hx hb dX5_count_72 (by decide) (by decide) rfl (by decide) ?_
        refine lv_aload_n hx hb dX5_count_133 rfl (lv_at hl 0 rfl) ?_
        refine fg5_19 X I (by omega) kfX5_105 dX5_count_134 ?_
        exact w_iret X I hr hlk (⟨by subst e; subst h1; subst h2; first | (simp [abF]; done) | (simp [abF]; rfl) | (simp [abF, hsw]; done), rfl⟩) dX5_count_137
      ·
        refine lv_tableIn (tgt := 138) (off := 66) hx hb dX5_count_72 (by decide) (by decide) rfl (by decide) ?_
        refine lv_aload_n hx hb dX5_count_138 rfl (lv_at hl 0 rfl) ?_
        refine fg5_21 X I (by omega) kfX5_117 dX5_count_139 ?_
        refine w_eqi (y := nI dr) hdr ?_
        exact w_iret X I hr hlk (⟨by subst e; subst h1; subst h2; first | (simp [abF]; done) | (simp [abF]; rfl) | (simp [abF, hsw]; done), rfl⟩) dX5_count_142
      ·
        refine lv_tableIn (tgt := 143) (off := 71) hx hb dX5_count_72 (by decide) (by decide) rfl (by decide) ?_
        refine lv_iload_n hx hb dX5_count_143 rfl (lv_at hl 3 rfl) ?_
        exact w_iret X I hr hlk (⟨by subst e; subst h1; subst h2; first | (simp [abF]; done) | (simp [abF]; rfl) | (simp [abF, hsw]; done), rfl⟩) dX5_count_144
      ·
        refine lv_tableOut (tgt := 145) hx hb dX5_count_72 hsw.1 (by decide) ?_
        refine lv_iconst (v := (-1)) hx hb dX5_count_145 (by decide) ?_
        exact w_iret X I hr hlk (⟨by subst e; subst h1; subst h2; first | (simp [abF]; done) | (simp [abF]; rfl) | (simp [abF, hsw]; done), rfl⟩) dX5_count_146
    ·
      have hlt : k < n := by
        rcases Nat.lt_or_ge k n with q | q
        · exact q
        · exact absurd (nI_le q (by omega)) c_18
      refine lv_iload_n hx hb dX5_count_21 rfl (lv_at hl 2 rfl) ?_
      refine lv_aload_n hx hb dX5_count_22 rfl (lv_at hl 0 rfl) ?_
      refine lv_iload hx hb dX5_count_23 (lv_at hl 4 rfl) ?_
      refine w_vSi X I 14 (by omega) rfl rfl (As := [.int (nI k)]) (rest := [.int fl]) (ctX5_isLoaded l g α N (wu σ 14 0 0) k hN (by omega)) (wM_V kmX5_98 ki_X5_isLoaded ks_X5_isLoaded kn_X5 kc_X5_isLoaded) rfl rfl (n := 1) (by decide +kernel) rfl ⟨by decide, by decide⟩ hl.1 rfl (Nat.le_of_ble_eq_true rfl) ⟨Nat.zero_le _, Nat.zero_le _⟩ dX5_count_25 (fun r_25 q_25 => ?_)
      by_cases p_25 : ¬ σ.1 22 k = (-9)
      ·
        obtain rfl : r_25 = 1 := Eq.trans q_25 (if_pos p_25)
        refine lv_if_eq (tgt := 35) hx hb dX5_count_28 (by decide) (fun cc => absurd cc (by decide)) (fun _ => ?_)
        refine lv_iconst (v := 1) hx hb dX5_count_31 (by decide) ?_
        refine lv_goto (tgt := 36) hx hb dX5_count_32 (by decide) ?_
        refine lv_iadd hx hb dX5_count_36 ?_
        refine lv_istore_n (lv' := [(2, .int (fl + 1)), (0, .ref (α 14)), (1, .int a), (3, .int dy), (4, .int (nI k))]) hx hb dX5_count_37 rfl hl (by decide) rfl (fun ls hl => ?_)
        refine lv_iload_n hx hb dX5_count_38 rfl (lv_at hl 3 rfl) ?_
        refine lv_aload_n hx hb dX5_count_39 rfl (lv_at hl 1 rfl) ?_
        refine lv_iload hx hb dX5_count_40 (lv_at hl 4 rfl) ?_
        refine w_vSi X I 14 (by omega) rfl rfl (As := [.int (nI k)]) (rest := [.int dy]) (ctX5_isLoaded l g α N (wu σ 14 0 0) k hN (by omega)) (wM_V kmX5_98 ki_X5_isLoaded ks_X5_isLoaded kn_X5 kc_X5_isLoaded) rfl rfl (n := 1) (by decide +kernel) rfl ⟨by decide, by decide⟩ hl.1 rfl (Nat.le_of_ble_eq_true rfl) ⟨Nat.zero_le _, Nat.zero_le _⟩ dX5_count_42 (fun r_42 q_42 => ?_)
        by_cases p_42 : ¬ σ.1 22 k = (-9)
        ·
          obtain rfl : r_42 = 1 := Eq.trans q_42 (if_pos p_42)
          refine lv_if_ne (tgt := 62) hx hb dX5_count_45 (by decide) (fun _ => ?_) (fun cc => absurd cc (by decide))
          refine lv_iconst (v := 0) hx hb dX5_count_62 (by decide) ?_
          refine lv_iadd hx hb dX5_count_63 ?_
          refine lv_istore_n (lv' := [(3, .int (dy + 0)), (2, .int (fl + 1)), (0, .ref (α 14)), (1, .int a), (4, .int (nI k))]) hx hb dX5_count_64 rfl hl (by decide) rfl (fun ls hl => ?_)
          refine lv_iinc (v := nI (k + 1)) (lv' := [(4, .int (nI (k + 1))), (3, .int (dy + 0)), (2, .int (fl + 1)), (0, .ref (α 14)), (1, .int a)]) hx hb dX5_count_65 hl (k := 4) rfl (nI_1 _) (by decide) rfl (fun ls hl => ?_)
          refine lv_goto (tgt := 12) hx hb dX5_count_68 (by decide) ?_
          exact ih (k + 1) (fl + 1) (dy + 0) (by omega) (by omega) (by rw [h1, smI]; first | rw [if_pos p_25] | rw [if_neg p_25]) (by rw [h2, smI]; first | (rw [if_neg (fun z => p_42 z.1)]; done) | (rw [if_neg (fun z => c_55 z.2)]; done) | (rw [if_pos ⟨Classical.not_not.mp p_42, c_55⟩]; done)) _ _ I ls (lv_sub hl [3, 4, 2, 1, 0] rfl)
        ·
          obtain rfl : r_42 = 0 := Eq.trans q_42 (if_neg p_42)
          refine lv_if_ne (tgt := 62) hx hb dX5_count_45 (by decide) (fun cc => absurd cc (by decide)) (fun _ => ?_)
          refine lv_aload_n hx hb dX5_count_48 rfl (lv_at hl 1 rfl) ?_
          refine fg5_11 X I (by omega) kfX5_28 dX5_count_49 ?_
          refine lv_iload hx hb dX5_count_52 (lv_at hl 4 rfl) ?_
          refine w_ld X I 21 (by omega) (n := 10) (k := k) (fun _ _ _ => rfl) rfl (by omega) (by decide) dX5_count_54 ?_
          refine lv_if_ne (tgt := 62) hx hb dX5_count_55 (by decide) (fun c_55 => ?_) (fun c_55 => ?_)
          ·
            refine lv_iconst (v := 0) hx hb dX5_count_62 (by decide) ?_
            refine lv_iadd hx hb dX5_count_63 ?_
            refine lv_istore_n (lv' := [(3, .int (dy + 0)), (2, .int (fl + 1)), (0, .ref (α 14)), (1, .int a), (4, .int (nI k))]) hx hb dX5_count_64 rfl hl (by decide) rfl (fun ls hl => ?_)
            refine lv_iinc (v := nI (k + 1)) (lv' := [(4, .int (nI (k + 1))), (3, .int (dy + 0)), (2, .int (fl + 1)), (0, .ref (α 14)), (1, .int a)]) hx hb dX5_count_65 hl (k := 4) rfl (nI_1 _) (by decide) rfl (fun ls hl => ?_)
            refine lv_goto (tgt := 12) hx hb dX5_count_68 (by decide) ?_
            exact ih (k + 1) (fl + 1) (dy + 0) (by omega) (by omega) (by rw [h1, smI]; first | rw [if_pos p_25] | rw [if_neg p_25]) (by rw [h2, smI]; first | (rw [if_neg (fun z => p_42 z.1)]; done) | (rw [if_neg (fun z => c_55 z.2)]; done) | (rw [if_pos ⟨Classical.not_not.mp p_42, c_55⟩]; done)) _ _ I ls (lv_sub hl [3, 4, 2, 1, 0] rfl)
          ·
            refine lv_iconst (v := 1) hx hb dX5_count_58 (by decide) ?_
            refine lv_goto (tgt := 63) hx hb dX5_count_59 (by decide) ?_
            refine lv_iadd hx hb dX5_count_63 ?_
            refine lv_istore_n (lv' := [(3, .int (dy + 1)), (2, .int (fl + 1)), (0, .ref (α 14)), (1, .int a), (4, .int (nI k))]) hx hb dX5_count_64 rfl hl (by decide) rfl (fun ls hl => ?_)
            refine lv_iinc (v := nI (k + 1)) (lv' := [(4, .int (nI (k + 1))), (3, .int (dy + 1)), (2, .int (fl + 1)), (0, .ref (α 14)), (1, .int a)]) hx hb dX5_count_65 hl (k := 4) rfl (nI_1 _) (by decide) rfl (fun ls hl => ?_)
            refine lv_goto (tgt := 12) hx hb dX5_count_68 (by decide) ?_
            exact ih (k + 1) (fl + 1) (dy + 1) (by omega) (by omega) (by rw [h1, smI]; first | rw [if_pos p_25] | rw [if_neg p_25]) (by rw [h2, smI]; first | (rw [if_neg (fun z => p_42 z.1)]; done) | (rw [if_neg (fun z => c_55 z.2)]; done) | (rw [if_pos ⟨Classical.not_not.mp p_42, c_55⟩]; done)) _ _ I ls (lv_sub hl [3, 4, 2, 1, 0] rfl)
      ·
        obtain rfl : r_25 = 0 := Eq.trans q_25 (if_neg p_25)
        refine lv_if_eq (tgt := 35) hx hb dX5_count_28 (by decide) (fun _ => ?_) (fun cc => absurd cc (by decide))
        refine lv_iconst (v := 0) hx hb dX5_count_35 (by decide) ?_
        refine lv_iadd hx hb dX5_count_36 ?_
        refine lv_istore_n (lv' := [(2, .int (fl + 0)), (0, .ref (α 14)), (1, .int a), (3, .int dy), (4, .int (nI k))]) hx hb dX5_count_37 rfl hl (by decide) rfl (fun ls hl => ?_)
        refine lv_iload_n hx hb dX5_count_38 rfl (lv_at hl 3 rfl) ?_
        refine lv_aload_n hx hb dX5_count_39 rfl (lv_at hl 1 rfl) ?_
        refine lv_iload hx hb dX5_count_40 (lv_at hl 4 rfl) ?_
        refine w_vSi X I 14 (by omega) rfl rfl (As := [.int (nI k)]) (rest := [.int dy]) (ctX5_isLoaded l g α N (wu σ 14 0 0) k hN (by omega)) (wM_V kmX5_98 ki_X5_isLoaded ks_X5_isLoaded kn_X5 kc_X5_isLoaded) rfl rfl (n := 1) (by decide +kernel) rfl ⟨by decide, by decide⟩ hl.1 rfl (Nat.le_of_ble_eq_true rfl) ⟨Nat.zero_le _, Nat.zero_le _⟩ dX5_count_42 (fun r_42 q_42 => ?_)
        by_cases p_42 : ¬ σ.1 22 k = (-9)
        ·
          obtain rfl : r_42 = 1 := Eq.trans q_42 (if_pos p_42)
          refine lv_if_ne (tgt := 62) hx hb dX5_count_45 (by decide) (fun _ => ?_) (fun cc => absurd cc (by decide))
          refine lv_iconst (v := 0) hx hb dX5_count_62 (by decide) ?_
          refine lv_iadd hx hb dX5_count_63 ?_
          refine lv_istore_n (lv' := [(3, .int (dy + 0)), (2, .int (fl + 0)), (0, .ref (α 14)), (1, .int a), (4, .int (nI k))]) hx hb dX5_count_64 rfl hl (by decide) rfl (fun ls hl => ?_)
          refine lv_iinc (v := nI (k + 1)) (lv' := [(4, .int (nI (k + 1))), (3, .int (dy + 0)), (2, .int (fl + 0)), (0, .ref (α 14)), (1, .int a)]) hx hb dX5_count_65 hl (k := 4) rfl (nI_1 _) (by decide) rfl (fun ls hl => ?_)
          refine lv_goto (tgt := 12) hx hb dX5_count_68 (by decide) ?_
          exact ih (k + 1) (fl + 0) (dy + 0) (by omega) (by omega) (by rw [h1, smI]; first | rw [if_pos p_25] | rw [if_neg p_25]) (by rw [h2, smI]; first | (rw [if_neg (fun z => p_42 z.1)]; done) | (rw [if_neg (fun z => c_55 z.2)]; done) | (rw [if_pos ⟨Classical.not_not.mp p_42, c_55⟩]; done)) _ _ I ls (lv_sub hl [3, 4, 2, 1, 0] rfl)
        ·
          obtain rfl : r_42 = 0 := Eq.trans q_42 (if_neg p_42)
          refine lv_if_ne (tgt := 62) hx hb dX5_count_45 (by decide) (fun cc => absurd cc (by decide)) (fun _ => ?_)
          refine lv_aload_n hx hb dX5_count_48 rfl (lv_at hl 1 rfl) ?_
          refine fg5_11 X I (by omega) kfX5_28 dX5_count_49 ?_
          refine lv_iload hx hb dX5_count_52 (lv_at hl 4 rfl) ?_
          refine w_ld X I 21 (by omega) (n := 10) (k := k) (fun _ _ _ => rfl) rfl (by omega) (by decide) dX5_count_54 ?_
          refine lv_if_ne (tgt := 62) hx hb dX5_count_55 (by decide) (fun c_55 => ?_) (fun c_55 => ?_)
          ·
            refine lv_iconst (v := 0) hx hb dX5_count_62 (by decide) ?_
            refine lv_iadd hx hb dX5_count_63 ?_
            refine lv_istore_n (lv' := [(3, .int (dy + 0)), (2, .int (fl + 0)), (0, .ref (α 14)), (1, .int a), (4, .int (nI k))]) hx hb dX5_count_64 rfl hl (by decide) rfl (fun ls hl => ?_)
            refine lv_iinc (v := nI (k + 1)) (lv' := [(4, .int (nI (k + 1))), (3, .int (dy + 0)), (2, .int (fl + 0)), (0, .ref (α 14)), (1, .int a)]) hx hb dX5_count_65 hl (k := 4) rfl (nI_1 _) (by decide) rfl (fun ls hl => ?_)
            refine lv_goto (tgt := 12) hx hb dX5_count_68 (by decide) ?_
            exact ih (k + 1) (fl + 0) (dy + 0) (by omega) (by omega) (by rw [h1, smI]; first | rw [if_pos p_25] | rw [if_neg p_25]) (by rw [h2, smI]; first | (rw [if_neg (fun z => p_42 z.1)]; done) | (rw [if_neg (fun z => c_55 z.2)]; done) | (rw [if_pos ⟨Classical.not_not.mp p_42, c_55⟩]; done)) _ _ I ls (lv_sub hl [3, 4, 2, 1, 0] rfl)
          ·
            refine lv_iconst (v := 1) hx hb dX5_count_58 (by decide) ?_
            refine lv_goto (tgt := 63) hx hb dX5_count_59 (by decide) ?_
            refine lv_iadd hx hb dX5_count_63 ?_
            refine lv_istore_n (lv' := [(3, .int (dy + 1)), (2, .int (fl + 0)), (0, .ref (α 14)), (1, .int a), (4, .int (nI k))]) hx hb dX5_count_64 rfl hl (by decide) rfl (fun ls hl => ?_)
            refine lv_iinc (v := nI (k + 1)) (lv' := [(4, .int (nI (k + 1))), (3, .int (dy + 1)), (2, .int (fl + 0)), (0, .ref (α 14)), (1, .int a)]) hx hb dX5_count_65 hl (k := 4) rfl (nI_1 _) (by decide) rfl (fun ls hl => ?_)
            refine lv_goto (tgt := 12) hx hb dX5_count_68 (by decide) ?_
            exact ih (k + 1) (fl + 0) (dy + 1) (by omega) (by omega) (by rw [h1, smI]; first | rw [if_pos p_25] | rw [if_neg p_25]) (by rw [h2, smI]; first | (rw [if_neg (fun z => p_42 z.1)]; done) | (rw [if_neg (fun z => c_55 z.2)]; done) | (rw [if_pos ⟨Classical.not_not.mp p_42, c_55⟩]; done)) _ _ I ls (lv_sub hl [3, 4, 2, 1, 0] rfl)
set_option maxHeartbeats 4000000 in
set_option maxRecDepth 100000 in
theorem ctX5_count (l : Launch) (g : wG) (α : Nat → Nat) (N : Nat) (σ : wS) (sz : Nat) (a : Int32) (n d ly dr : Nat) (hn : σ.1 14 7 = nI n) (hn10 : n ≤ 10) (hN : 32 ≤ N) (hd : σ.1 14 2 = nI d) (hd200 : d ≤ 200) (hz : σ.1 14 4 = nI ly) (hly : ly ≤ 6) (hdr : σ.1 14 21 = nI dr) (hdr30 : dr ≤ 30) : Met l yX5_count (wM yX5_count cX5_count 5 (some FieldType.int)) ({ frames := 1, cells := 0, slots := 0, locals := 21 } : Room) (wPs g α N sz σ [.ref (α 14), .int a]) (va_Qi (fun r τ => r = abF (nI d) (nI n) (nI ly) (smI (fun i => if ¬ σ.1 22 i = (-9) then 1 else 0) n) (σ.1 14 19) (nI dr) (smI (fun i => if σ.1 22 i = (-9) ∧ σ.1 21 i = 0 then 1 else 0) n) a ∧ τ = wu σ 14 0 0) (wB g α N) (wA α N sz)) 0 0 (wA α N sz) := by
  refine w_enter (by decide) (Nat.le_of_ble_eq_true rfl) (fun p e s m args below meth c hsz X I hr hlk ls hl => ?_)
  have hA : ∀ q, s.heap.size ≤ q → wA α N sz q := fun q h => Or.inr (by omega)
  have hx := X.1.1
  have hb := X.1.2.1
  have hl : lv_has ls 5 [(0, .ref (α 14)), (1, .int a)] := hl
  refine lv_aload_n hx hb dX5_count_0 rfl (lv_at hl 0 rfl) ?_
  refine lv_iconst (v := 0) hx hb dX5_count_1 (by decide) ?_
  refine fp5_0 X I (by omega) kfX5_66 dX5_count_2 (fun H locs I => ?_)
  refine lv_iconst (v := 0) hx hb dX5_count_5 (by decide) ?_
  refine lv_istore_n (lv' := [(2, .int 0), (0, .ref (α 14)), (1, .int a)]) hx hb dX5_count_6 rfl hl (by decide) rfl (fun ls hl => ?_)
  refine lv_iconst (v := 0) hx hb dX5_count_7 (by decide) ?_
  refine lv_istore_n (lv' := [(3, .int 0), (2, .int 0), (0, .ref (α 14)), (1, .int a)]) hx hb dX5_count_8 rfl hl (by decide) rfl (fun ls hl => ?_)
  refine lv_iconst (v := 0) hx hb dX5_count_9 (by decide) ?_
  refine lv_istore (lv' := [(4, .int 0), (3, .int 0), (2, .int 0), (0, .ref (α 14)), (1, .int a)]) hx hb dX5_count_10 hl (by decide) rfl (fun ls hl => ?_)
  exact lpX5_count_12 a n d ly dr X hsz hr hlk hn hn10 hN hd hd200 hz hly hdr hdr30  (n + 1) 0 0 0 (by omega) (by omega) rfl rfl _ _ I ls (lv_sub hl [3, 4, 2, 1, 0] rfl)
end
section
variable {l : Launch} {g : wG} {α : Nat → Nat} {N : Nat} {σ : wS} {p : Program} {e : Env} {s : State} {m : MethodId} {args : Array Value} {below : List Frame} {meth : Method} {c : Code}
set_option maxHeartbeats 4000000 in
set_option maxRecDepth 100000 in
theorem ctX5_trace (l : Launch) (g : wG) (α : Nat → Nat) (N : Nat) (σ : wS) (sz : Nat)  (hN : 32 ≤ N) : Met l yX5_trace (wM yX5_trace cX5_trace 1 (some FieldType.long)) ({ frames := 0, cells := 0, slots := 0, locals := 0 } : Room) (wPs g α N sz σ [.ref (α 14)]) (va_Ql (fun r τ => r = σ.2.1 14 ∧ τ = wu σ 14 0 0) (wB g α N) (wA α N sz)) 0 0 (wA α N sz) := by
  refine w_enter (by decide) (Nat.le_of_ble_eq_true rfl) (fun p e s m args below meth c hsz X I hr hlk ls hl => ?_)
  have hA : ∀ q, s.heap.size ≤ q → wA α N sz q := fun q h => Or.inr (by omega)
  have hx := X.1.1
  have hb := X.1.2.1
  have hl : lv_has ls 1 [(0, .ref (α 14))] := hl
  refine lv_aload_n hx hb dX5_trace_0 rfl (lv_at hl 0 rfl) ?_
  refine lv_iconst (v := 0) hx hb dX5_trace_1 (by decide) ?_
  refine fp5_0 X I (by omega) kfX5_66 dX5_trace_2 (fun H locs I => ?_)
  refine lv_aload_n hx hb dX5_trace_5 rfl (lv_at hl 0 rfl) ?_
  refine fg5_1 X I (by omega) kfX5_86 dX5_trace_6 ?_
  exact w_lret X I hr hlk (⟨rfl, rfl⟩) dX5_trace_9
end
end
