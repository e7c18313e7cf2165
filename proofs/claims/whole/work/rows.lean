section
-- ===== PART A: goes FIRST, ahead of the names: the tables' words, and 'selects' of the private methods out of them =====
/-- a private method of a class that the tables say can be made, by its rows of tables_1 -/
def lw_okq (q : MethodName × Nat) : Prop := (q.1.cls ≠ "java/lang/invoke/MethodHandle" ∧ q.1.cls ≠ "java/lang/invoke/VarHandle") ∧ Cond.instantiable q.1.cls q.2 ∈ tables_1 ∧ Cond.privateMethod q.1 ∈ tables_1 ∧ Cond.instanceMethod q.1 ∈ tables_1
theorem lw_p0 : lw_okq (⟨"RockRoad", "shipNumbered", "(I)LRockRoad$Ship;"⟩, 10) := ⟨⟨by decide +kernel, by decide +kernel⟩, List.mem_of_getElem? (i := 10) (by decide +kernel), List.mem_of_getElem? (i := 183) (by decide +kernel), List.mem_of_getElem? (i := 184) (by decide +kernel)⟩
theorem lw_p1 : lw_okq (⟨"RockRoad", "letOneDayGo", "()V"⟩, 10) := ⟨⟨by decide +kernel, by decide +kernel⟩, List.mem_of_getElem? (i := 10) (by decide +kernel), List.mem_of_getElem? (i := 197) (by decide +kernel), List.mem_of_getElem? (i := 198) (by decide +kernel)⟩
theorem lw_p2 : lw_okq (⟨"RockRoad", "lineUp", "()I"⟩, 10) := ⟨⟨by decide +kernel, by decide +kernel⟩, List.mem_of_getElem? (i := 10) (by decide +kernel), List.mem_of_getElem? (i := 212) (by decide +kernel), List.mem_of_getElem? (i := 213) (by decide +kernel)⟩
theorem lw_p3 : lw_okq (⟨"RockRoad", "standInLine", "(LRockRoad$Ship;I)V"⟩, 10) := ⟨⟨by decide +kernel, by decide +kernel⟩, List.mem_of_getElem? (i := 10) (by decide +kernel), List.mem_of_getElem? (i := 221) (by decide +kernel), List.mem_of_getElem? (i := 222) (by decide +kernel)⟩
theorem lw_p4 : lw_okq (⟨"RockRoad", "loadLine", "(I)I"⟩, 10) := ⟨⟨by decide +kernel, by decide +kernel⟩, List.mem_of_getElem? (i := 10) (by decide +kernel), List.mem_of_getElem? (i := 225) (by decide +kernel), List.mem_of_getElem? (i := 226) (by decide +kernel)⟩
theorem lw_p5 : lw_okq (⟨"RockRoad", "tonsAt", "(I)I"⟩, 10) := ⟨⟨by decide +kernel, by decide +kernel⟩, List.mem_of_getElem? (i := 10) (by decide +kernel), List.mem_of_getElem? (i := 229) (by decide +kernel), List.mem_of_getElem? (i := 230) (by decide +kernel)⟩
theorem lw_p6 : lw_okq (⟨"RockRoad", "chutesShut", "(I)Z"⟩, 10) := ⟨⟨by decide +kernel, by decide +kernel⟩, List.mem_of_getElem? (i := 10) (by decide +kernel), List.mem_of_getElem? (i := 233) (by decide +kernel), List.mem_of_getElem? (i := 234) (by decide +kernel)⟩
theorem lw_p7 : lw_okq (⟨"RockRoad", "lightersShut", "(I)Z"⟩, 10) := ⟨⟨by decide +kernel, by decide +kernel⟩, List.mem_of_getElem? (i := 10) (by decide +kernel), List.mem_of_getElem? (i := 237) (by decide +kernel), List.mem_of_getElem? (i := 238) (by decide +kernel)⟩
theorem lw_p8 : lw_okq (⟨"RockRoad", "tonsWanted", "()I"⟩, 10) := ⟨⟨by decide +kernel, by decide +kernel⟩, List.mem_of_getElem? (i := 10) (by decide +kernel), List.mem_of_getElem? (i := 253) (by decide +kernel), List.mem_of_getElem? (i := 254) (by decide +kernel)⟩
theorem lw_p9 : lw_okq (⟨"RockRoad$Draft", "addDigit", "(II)Z"⟩, 3) := ⟨⟨by decide +kernel, by decide +kernel⟩, List.mem_of_getElem? (i := 39) (by decide +kernel), List.mem_of_getElem? (i := 312) (by decide +kernel), List.mem_of_getElem? (i := 313) (by decide +kernel)⟩
theorem lw_p10 : lw_okq (⟨"RockRoad", "usedBy", "(LRockRoad$Ship;)I"⟩, 10) := ⟨⟨by decide +kernel, by decide +kernel⟩, List.mem_of_getElem? (i := 10) (by decide +kernel), List.mem_of_getElem? (i := 331) (by decide +kernel), List.mem_of_getElem? (i := 332) (by decide +kernel)⟩
theorem lw_p11 : lw_okq (⟨"RockRoad", "lastDayOf", "(LRockRoad$Ship;)I"⟩, 10) := ⟨⟨by decide +kernel, by decide +kernel⟩, List.mem_of_getElem? (i := 10) (by decide +kernel), List.mem_of_getElem? (i := 335) (by decide +kernel), List.mem_of_getElem? (i := 336) (by decide +kernel)⟩
theorem lw_p12 : lw_okq (⟨"RockRoad", "counts", "(LRockRoad$Ship;I)Z"⟩, 10) := ⟨⟨by decide +kernel, by decide +kernel⟩, List.mem_of_getElem? (i := 10) (by decide +kernel), List.mem_of_getElem? (i := 339) (by decide +kernel), List.mem_of_getElem? (i := 340) (by decide +kernel)⟩
theorem lw_p13 : lw_okq (⟨"RockRoad", "owedBy", "(LRockRoad$Ship;)I"⟩, 10) := ⟨⟨by decide +kernel, by decide +kernel⟩, List.mem_of_getElem? (i := 10) (by decide +kernel), List.mem_of_getElem? (i := 347) (by decide +kernel), List.mem_of_getElem? (i := 348) (by decide +kernel)⟩
theorem lw_p14 : lw_okq (⟨"RockRoad", "shareOf", "(LRockRoad$Ship;I)I"⟩, 10) := ⟨⟨by decide +kernel, by decide +kernel⟩, List.mem_of_getElem? (i := 10) (by decide +kernel), List.mem_of_getElem? (i := 355) (by decide +kernel), List.mem_of_getElem? (i := 356) (by decide +kernel)⟩
theorem lw_p15 : lw_okq (⟨"RockRoad$Letters", "latestCome", "(I)I"⟩, 3) := ⟨⟨by decide +kernel, by decide +kernel⟩, List.mem_of_getElem? (i := 57) (by decide +kernel), List.mem_of_getElem? (i := 375) (by decide +kernel), List.mem_of_getElem? (i := 376) (by decide +kernel)⟩
def lw_privs_1 : List (MethodName × Nat) := [(⟨"RockRoad", "shipNumbered", "(I)LRockRoad$Ship;"⟩, 10), (⟨"RockRoad", "letOneDayGo", "()V"⟩, 10), (⟨"RockRoad", "lineUp", "()I"⟩, 10), (⟨"RockRoad", "standInLine", "(LRockRoad$Ship;I)V"⟩, 10), (⟨"RockRoad", "loadLine", "(I)I"⟩, 10), (⟨"RockRoad", "tonsAt", "(I)I"⟩, 10), (⟨"RockRoad", "chutesShut", "(I)Z"⟩, 10), (⟨"RockRoad", "lightersShut", "(I)Z"⟩, 10), (⟨"RockRoad", "tonsWanted", "()I"⟩, 10), (⟨"RockRoad$Draft", "addDigit", "(II)Z"⟩, 3), (⟨"RockRoad", "usedBy", "(LRockRoad$Ship;)I"⟩, 10), (⟨"RockRoad", "lastDayOf", "(LRockRoad$Ship;)I"⟩, 10), (⟨"RockRoad", "counts", "(LRockRoad$Ship;I)Z"⟩, 10), (⟨"RockRoad", "owedBy", "(LRockRoad$Ship;)I"⟩, 10), (⟨"RockRoad", "shareOf", "(LRockRoad$Ship;I)I"⟩, 10), (⟨"RockRoad$Letters", "latestCome", "(I)I"⟩, 3)]
theorem lw_r1 : ∀ q ∈ lw_privs_1, lw_okq q := List.forall_mem_cons.mpr ⟨lw_p0, List.forall_mem_cons.mpr ⟨lw_p1, List.forall_mem_cons.mpr ⟨lw_p2, List.forall_mem_cons.mpr ⟨lw_p3, List.forall_mem_cons.mpr ⟨lw_p4, List.forall_mem_cons.mpr ⟨lw_p5, List.forall_mem_cons.mpr ⟨lw_p6, List.forall_mem_cons.mpr ⟨lw_p7, List.forall_mem_cons.mpr ⟨lw_p8, List.forall_mem_cons.mpr ⟨lw_p9, List.forall_mem_cons.mpr ⟨lw_p10, List.forall_mem_cons.mpr ⟨lw_p11, List.forall_mem_cons.mpr ⟨lw_p12, List.forall_mem_cons.mpr ⟨lw_p13, List.forall_mem_cons.mpr ⟨lw_p14, List.forall_mem_cons.mpr ⟨lw_p15, fun _ h => absurd h List.not_mem_nil⟩⟩⟩⟩⟩⟩⟩⟩⟩⟩⟩⟩⟩⟩⟩⟩
theorem lw_p16 : lw_okq (⟨"RockRoad", "loadedShips", "()I"⟩, 10) := ⟨⟨by decide +kernel, by decide +kernel⟩, List.mem_of_getElem? (i := 10) (by decide +kernel), List.mem_of_getElem? (i := 388) (by decide +kernel), List.mem_of_getElem? (i := 389) (by decide +kernel)⟩
theorem lw_p17 : lw_okq (⟨"RockRoad", "dryShips", "()I"⟩, 10) := ⟨⟨by decide +kernel, by decide +kernel⟩, List.mem_of_getElem? (i := 10) (by decide +kernel), List.mem_of_getElem? (i := 393) (by decide +kernel), List.mem_of_getElem? (i := 394) (by decide +kernel)⟩
theorem lw_p18 : lw_okq (⟨"RockRoadModel", "isShip", "(I)Z"⟩, 25) := ⟨⟨by decide +kernel, by decide +kernel⟩, List.mem_of_getElem? (i := 401) (by decide +kernel), List.mem_of_getElem? (i := 507) (by decide +kernel), List.mem_of_getElem? (i := 508) (by decide +kernel)⟩
theorem lw_p19 : lw_okq (⟨"RockRoadModel", "turnOf", "(I)I"⟩, 25) := ⟨⟨by decide +kernel, by decide +kernel⟩, List.mem_of_getElem? (i := 401) (by decide +kernel), List.mem_of_getElem? (i := 513) (by decide +kernel), List.mem_of_getElem? (i := 514) (by decide +kernel)⟩
theorem lw_p20 : lw_okq (⟨"RockRoadModel", "goes", "()V"⟩, 25) := ⟨⟨by decide +kernel, by decide +kernel⟩, List.mem_of_getElem? (i := 401) (by decide +kernel), List.mem_of_getElem? (i := 521) (by decide +kernel), List.mem_of_getElem? (i := 522) (by decide +kernel)⟩
theorem lw_p21 : lw_okq (⟨"RockRoadModel", "isLoaded", "(I)Z"⟩, 25) := ⟨⟨by decide +kernel, by decide +kernel⟩, List.mem_of_getElem? (i := 401) (by decide +kernel), List.mem_of_getElem? (i := 525) (by decide +kernel), List.mem_of_getElem? (i := 526) (by decide +kernel)⟩
theorem lw_p22 : lw_okq (⟨"RockRoadModel", "loads", "(II)I"⟩, 25) := ⟨⟨by decide +kernel, by decide +kernel⟩, List.mem_of_getElem? (i := 401) (by decide +kernel), List.mem_of_getElem? (i := 529) (by decide +kernel), List.mem_of_getElem? (i := 530) (by decide +kernel)⟩
theorem lw_p23 : lw_okq (⟨"RockRoadModel", "tonsOf", "(I)I"⟩, 25) := ⟨⟨by decide +kernel, by decide +kernel⟩, List.mem_of_getElem? (i := 401) (by decide +kernel), List.mem_of_getElem? (i := 537) (by decide +kernel), List.mem_of_getElem? (i := 538) (by decide +kernel)⟩
theorem lw_p24 : lw_okq (⟨"RockRoadModel", "worthOf", "(I)I"⟩, 25) := ⟨⟨by decide +kernel, by decide +kernel⟩, List.mem_of_getElem? (i := 401) (by decide +kernel), List.mem_of_getElem? (i := 541) (by decide +kernel), List.mem_of_getElem? (i := 542) (by decide +kernel)⟩
theorem lw_p25 : lw_okq (⟨"RockRoadModel", "faultOf", "()I"⟩, 25) := ⟨⟨by decide +kernel, by decide +kernel⟩, List.mem_of_getElem? (i := 401) (by decide +kernel), List.mem_of_getElem? (i := 574) (by decide +kernel), List.mem_of_getElem? (i := 575) (by decide +kernel)⟩
theorem lw_p26 : lw_okq (⟨"RockRoadModel", "isDigit", "(I)Z"⟩, 25) := ⟨⟨by decide +kernel, by decide +kernel⟩, List.mem_of_getElem? (i := 401) (by decide +kernel), List.mem_of_getElem? (i := 578) (by decide +kernel), List.mem_of_getElem? (i := 579) (by decide +kernel)⟩
theorem lw_p27 : lw_okq (⟨"RockRoadModel", "usedOf", "(I)I"⟩, 25) := ⟨⟨by decide +kernel, by decide +kernel⟩, List.mem_of_getElem? (i := 401) (by decide +kernel), List.mem_of_getElem? (i := 591) (by decide +kernel), List.mem_of_getElem? (i := 592) (by decide +kernel)⟩
theorem lw_p28 : lw_okq (⟨"RockRoadModel", "last", "(I)I"⟩, 25) := ⟨⟨by decide +kernel, by decide +kernel⟩, List.mem_of_getElem? (i := 401) (by decide +kernel), List.mem_of_getElem? (i := 595) (by decide +kernel), List.mem_of_getElem? (i := 596) (by decide +kernel)⟩
theorem lw_p29 : lw_okq (⟨"RockRoadModel", "counts", "(II)Z"⟩, 25) := ⟨⟨by decide +kernel, by decide +kernel⟩, List.mem_of_getElem? (i := 401) (by decide +kernel), List.mem_of_getElem? (i := 599) (by decide +kernel), List.mem_of_getElem? (i := 600) (by decide +kernel)⟩
theorem lw_p30 : lw_okq (⟨"RockRoadModel", "isHere", "(I)Z"⟩, 25) := ⟨⟨by decide +kernel, by decide +kernel⟩, List.mem_of_getElem? (i := 401) (by decide +kernel), List.mem_of_getElem? (i := 615) (by decide +kernel), List.mem_of_getElem? (i := 616) (by decide +kernel)⟩
def lw_privs_2 : List (MethodName × Nat) := [(⟨"RockRoad", "loadedShips", "()I"⟩, 10), (⟨"RockRoad", "dryShips", "()I"⟩, 10), (⟨"RockRoadModel", "isShip", "(I)Z"⟩, 25), (⟨"RockRoadModel", "turnOf", "(I)I"⟩, 25), (⟨"RockRoadModel", "goes", "()V"⟩, 25), (⟨"RockRoadModel", "isLoaded", "(I)Z"⟩, 25), (⟨"RockRoadModel", "loads", "(II)I"⟩, 25), (⟨"RockRoadModel", "tonsOf", "(I)I"⟩, 25), (⟨"RockRoadModel", "worthOf", "(I)I"⟩, 25), (⟨"RockRoadModel", "faultOf", "()I"⟩, 25), (⟨"RockRoadModel", "isDigit", "(I)Z"⟩, 25), (⟨"RockRoadModel", "usedOf", "(I)I"⟩, 25), (⟨"RockRoadModel", "last", "(I)I"⟩, 25), (⟨"RockRoadModel", "counts", "(II)Z"⟩, 25), (⟨"RockRoadModel", "isHere", "(I)Z"⟩, 25)]
theorem lw_r2 : ∀ q ∈ lw_privs_2, lw_okq q := List.forall_mem_cons.mpr ⟨lw_p16, List.forall_mem_cons.mpr ⟨lw_p17, List.forall_mem_cons.mpr ⟨lw_p18, List.forall_mem_cons.mpr ⟨lw_p19, List.forall_mem_cons.mpr ⟨lw_p20, List.forall_mem_cons.mpr ⟨lw_p21, List.forall_mem_cons.mpr ⟨lw_p22, List.forall_mem_cons.mpr ⟨lw_p23, List.forall_mem_cons.mpr ⟨lw_p24, List.forall_mem_cons.mpr ⟨lw_p25, List.forall_mem_cons.mpr ⟨lw_p26, List.forall_mem_cons.mpr ⟨lw_p27, List.forall_mem_cons.mpr ⟨lw_p28, List.forall_mem_cons.mpr ⟨lw_p29, List.forall_mem_cons.mpr ⟨lw_p30, fun _ h => absurd h List.not_mem_nil⟩⟩⟩⟩⟩⟩⟩⟩⟩⟩⟩⟩⟩⟩⟩
def lw_privs : List (MethodName × Nat) := lw_privs_1 ++ (lw_privs_2)
def lw_tbl : List Cond := k2_sels lw_privs ++ tables_1
theorem lw_privs_ok : ∀ q ∈ lw_privs, lw_okq q := by
  show ∀ q ∈ lw_privs_1 ++ (lw_privs_2), lw_okq q
  exact List.forall_mem_append.mpr ⟨lw_r1, lw_r2⟩
-- ===== end of PART A; then your names; then what follows =====
end
section
def RX0 : String := "RockRoad$Draft"
def TX0 : u_T := fun k => match k with
  | 0 => ("RockRoad$Draft", "bytes", "[I", true)
  | 1 => ("RockRoad$Draft", "terms", "[I", true)
  | _ => ("RockRoad$Draft", "length", "I", false)
def tyX0 : Nat → FieldType := fun k => match k with
  | 0 => .array .int
  | 1 => .array .int
  | _ => .int
abbrev wsX00 : List Cond := u_ws RX0 TX0 3
theorem nmX0 : ∀ a, a < 3 → ∀ b, b < 3 → a ≠ b → (TX0 a).2.1 ≠ (TX0 b).2.1 := by decide +kernel
theorem tyX0_ok : ∀ k, k < 3 → parseFieldDescriptor (TX0 k).2.2.1 = some (tyX0 k) := by decide +kernel
abbrev cX0_init : ByteArray := prog_2_method_1_code
def yX0_init : MethodName := ⟨RX0, "<init>", "()V"⟩
abbrev cX0_append : ByteArray := prog_2_method_2_code
def yX0_append : MethodName := ⟨RX0, "append", "(JI)V"⟩
abbrev cX0_read : ByteArray := prog_2_method_3_code
def yX0_read : MethodName := ⟨RX0, "read", "()I"⟩
abbrev cX0_takesNumber : ByteArray := prog_2_method_4_code
def yX0_takesNumber : MethodName := ⟨RX0, "takesNumber", "(I)Z"⟩
abbrev cX0_addDigit : ByteArray := prog_2_method_5_code
def yX0_addDigit : MethodName := ⟨RX0, "addDigit", "(II)Z"⟩
abbrev cX0_termOf : ByteArray := prog_2_method_6_code
def yX0_termOf : MethodName := ⟨RX0, "termOf", "(I)I"⟩
def RX1 : String := "RockRoad$Layers"
def TX1 : u_T := fun k => match k with
  | 0 => ("RockRoad$Layers", "tons", "[I", true)
  | 1 => ("RockRoad$Layers", "worths", "[I", true)
  | _ => ("RockRoad$Layers", "size", "I", false)
def tyX1 : Nat → FieldType := fun k => match k with
  | 0 => .array .int
  | 1 => .array .int
  | _ => .int
abbrev wsX10 : List Cond := u_ws RX1 TX1 3
theorem nmX1 : ∀ a, a < 3 → ∀ b, b < 3 → a ≠ b → (TX1 a).2.1 ≠ (TX1 b).2.1 := by decide +kernel
theorem tyX1_ok : ∀ k, k < 3 → parseFieldDescriptor (TX1 k).2.2.1 = some (tyX1 k) := by decide +kernel
abbrev cX1_init : ByteArray := prog_3_method_1_code
def yX1_init : MethodName := ⟨RX1, "<init>", "()V"⟩
abbrev cX1_has : ByteArray := prog_3_method_2_code
def yX1_has : MethodName := ⟨RX1, "has", "(I)Z"⟩
abbrev cX1_lay : ByteArray := prog_3_method_3_code
def yX1_lay : MethodName := ⟨RX1, "lay", "(II)I"⟩
abbrev cX1_dig : ByteArray := prog_3_method_4_code
def yX1_dig : MethodName := ⟨RX1, "dig", "(I[I)I"⟩
abbrev cX1_worthOf : ByteArray := prog_3_method_5_code
def yX1_worthOf : MethodName := ⟨RX1, "worthOf", "([I)I"⟩
abbrev cX1_sampleOf : ByteArray := prog_3_method_6_code
def yX1_sampleOf : MethodName := ⟨RX1, "sampleOf", "([II)I"⟩
def RX2 : String := "RockRoad$Letters"
def TX2 : u_T := fun k => match k with
  | 0 => ("RockRoad$Letters", "queues", "[I", true)
  | 1 => ("RockRoad$Letters", "dug", "[I", true)
  | _ => ("RockRoad$Letters", "comings", "[I", true)
def tyX2 : Nat → FieldType := fun k => match k with
  | 0 => .array .int
  | 1 => .array .int
  | _ => .array .int
abbrev wsX20 : List Cond := u_ws RX2 TX2 3
theorem nmX2 : ∀ a, a < 3 → ∀ b, b < 3 → a ≠ b → (TX2 a).2.1 ≠ (TX2 b).2.1 := by decide +kernel
theorem tyX2_ok : ∀ k, k < 3 → parseFieldDescriptor (TX2 k).2.2.1 = some (tyX2 k) := by decide +kernel
abbrev cX2_init : ByteArray := prog_4_method_1_code
def yX2_init : MethodName := ⟨RX2, "<init>", "()V"⟩
abbrev cX2_tell : ByteArray := prog_4_method_2_code
def yX2_tell : MethodName := ⟨RX2, "tell", "(IIII)V"⟩
abbrev cX2_dugFrom : ByteArray := prog_4_method_3_code
def yX2_dugFrom : MethodName := ⟨RX2, "dugFrom", "(II)I"⟩
abbrev cX2_foretell : ByteArray := prog_4_method_4_code
def yX2_foretell : MethodName := ⟨RX2, "foretell", "(I)I"⟩
abbrev cX2_latestCome : ByteArray := prog_4_method_5_code
def yX2_latestCome : MethodName := ⟨RX2, "latestCome", "(I)I"⟩
def RX3 : String := "RockRoad$Ship"
def TX3 : u_T := fun k => match k with
  | 0 => ("RockRoad$Ship", "number", "I", true)
  | 1 => ("RockRoad$Ship", "kind", "I", true)
  | 2 => ("RockRoad$Ship", "arrival", "I", true)
  | 3 => ("RockRoad$Ship", "cargo", "[I", true)
  | 4 => ("RockRoad$Ship", "terms", "[I", true)
  | 5 => ("RockRoad$Ship", "log", "[I", true)
  | 6 => ("RockRoad$Ship", "wants", "I", false)
  | 7 => ("RockRoad$Ship", "has", "I", false)
  | 8 => ("RockRoad$Ship", "water", "I", false)
  | _ => ("RockRoad$Ship", "loadedOn", "I", false)
def tyX3 : Nat → FieldType := fun k => match k with
  | 0 => .int
  | 1 => .int
  | 2 => .int
  | 3 => .array .int
  | 4 => .array .int
  | 5 => .array .int
  | 6 => .int
  | 7 => .int
  | 8 => .int
  | _ => .int
abbrev wsX30 : List Cond := u_ws RX3 TX3 10
theorem nmX3 : ∀ a, a < 10 → ∀ b, b < 10 → a ≠ b → (TX3 a).2.1 ≠ (TX3 b).2.1 := by decide +kernel
theorem tyX3_ok : ∀ k, k < 10 → parseFieldDescriptor (TX3 k).2.2.1 = some (tyX3 k) := by decide +kernel
abbrev cX3_init : ByteArray := prog_5_method_1_code
def yX3_init : MethodName := ⟨RX3, "<init>", "(IIIII)V"⟩
abbrev cX3_isLoaded : ByteArray := prog_5_method_2_code
def yX3_isLoaded : MethodName := ⟨RX3, "isLoaded", "()Z"⟩
abbrev cX3_isDry : ByteArray := prog_5_method_3_code
def yX3_isDry : MethodName := ⟨RX3, "isDry", "()Z"⟩
abbrev cX3_agreed : ByteArray := prog_5_method_4_code
def yX3_agreed : MethodName := ⟨RX3, "agreed", "(I)Z"⟩
abbrev cX3_turnOn : ByteArray := prog_5_method_5_code
def yX3_turnOn : MethodName := ⟨RX3, "turnOn", "(I)I"⟩
abbrev cX3_drink : ByteArray := prog_5_method_6_code
def yX3_drink : MethodName := ⟨RX3, "drink", "(I)V"⟩
abbrev cX3_take : ByteArray := prog_5_method_7_code
def yX3_take : MethodName := ⟨RX3, "take", "(II)V"⟩
def RX4 : String := "RockRoad"
def TX4 : u_T := fun k => match k with
  | 0 => ("RockRoad", "swells", "[I", true)
  | 1 => ("RockRoad", "layers", "LRockRoad$Layers;", true)
  | 2 => ("RockRoad", "ships", "[LRockRoad$Ship;", true)
  | 3 => ("RockRoad", "line", "[LRockRoad$Ship;", true)
  | 4 => ("RockRoad", "draft", "LRockRoad$Draft;", true)
  | 5 => ("RockRoad", "letters", "LRockRoad$Letters;", true)
  | 6 => ("RockRoad", "today", "I", false)
  | 7 => ("RockRoad", "shipCount", "I", false)
  | 8 => ("RockRoad", "delay", "I", false)
  | _ => ("RockRoad", "trace", "J", false)
def tyX4 : Nat → FieldType := fun k => match k with
  | 0 => .array .int
  | 1 => .object "RockRoad$Layers"
  | 2 => .array (.object "RockRoad$Ship")
  | 3 => .array (.object "RockRoad$Ship")
  | 4 => .object "RockRoad$Draft"
  | 5 => .object "RockRoad$Letters"
  | 6 => .int
  | 7 => .int
  | 8 => .int
  | _ => .long
abbrev wsX40 : List Cond := u_ws RX4 TX4 10
theorem nmX4 : ∀ a, a < 10 → ∀ b, b < 10 → a ≠ b → (TX4 a).2.1 ≠ (TX4 b).2.1 := by decide +kernel
theorem tyX4_ok : ∀ k, k < 10 → parseFieldDescriptor (TX4 k).2.2.1 = some (tyX4 k) := by decide +kernel
abbrev cX4_init : ByteArray := prog_1_method_1_code
def yX4_init : MethodName := ⟨RX4, "<init>", "()V"⟩
abbrev cX4_layer : ByteArray := prog_1_method_2_code
def yX4_layer : MethodName := ⟨RX4, "layer", "(II)I"⟩
abbrev cX4_left : ByteArray := prog_1_method_3_code
def yX4_left : MethodName := ⟨RX4, "left", "(I)I"⟩
abbrev cX4_swell : ByteArray := prog_1_method_4_code
def yX4_swell : MethodName := ⟨RX4, "swell", "(II)I"⟩
abbrev cX4_ship : ByteArray := prog_1_method_5_code
def yX4_ship : MethodName := ⟨RX4, "ship", "(III)I"⟩
abbrev cX4_turn : ByteArray := prog_1_method_6_code
def yX4_turn : MethodName := ⟨RX4, "turn", "(I)I"⟩
abbrev cX4_days : ByteArray := prog_1_method_7_code
def yX4_days : MethodName := ⟨RX4, "days", "(I)I"⟩
abbrev cX4_about : ByteArray := prog_1_method_8_code
def yX4_about : MethodName := ⟨RX4, "about", "(II)I"⟩
abbrev cX4_cargo : ByteArray := prog_1_method_9_code
def yX4_cargo : MethodName := ⟨RX4, "cargo", "(II)I"⟩
abbrev cX4_loaded : ByteArray := prog_1_method_10_code
def yX4_loaded : MethodName := ⟨RX4, "loaded", "(II)I"⟩
abbrev cX4_boat : ByteArray := prog_1_method_11_code
def yX4_boat : MethodName := ⟨RX4, "boat", "(II)I"⟩
abbrev cX4_sample : ByteArray := prog_1_method_12_code
def yX4_sample : MethodName := ⟨RX4, "sample", "(II)I"⟩
abbrev cX4_type : ByteArray := prog_1_method_13_code
def yX4_type : MethodName := ⟨RX4, "type", "(JI)I"⟩
abbrev cX4_clear : ByteArray := prog_1_method_14_code
def yX4_clear : MethodName := ⟨RX4, "clear", "()I"⟩
abbrev cX4_charter : ByteArray := prog_1_method_15_code
def yX4_charter : MethodName := ⟨RX4, "charter", "(I)I"⟩
abbrev cX4_term : ByteArray := prog_1_method_16_code
def yX4_term : MethodName := ⟨RX4, "term", "(II)I"⟩
abbrev cX4_owed : ByteArray := prog_1_method_17_code
def yX4_owed : MethodName := ⟨RX4, "owed", "(II)I"⟩
abbrev cX4_shared : ByteArray := prog_1_method_18_code
def yX4_shared : MethodName := ⟨RX4, "shared", "(II)I"⟩
abbrev cX4_delay : ByteArray := prog_1_method_19_code
def yX4_delay : MethodName := ⟨RX4, "delay", "(I)I"⟩
abbrev cX4_letter : ByteArray := prog_1_method_20_code
def yX4_letter : MethodName := ⟨RX4, "letter", "(II)I"⟩
abbrev cX4_foretold : ByteArray := prog_1_method_21_code
def yX4_foretold : MethodName := ⟨RX4, "foretold", "()I"⟩
abbrev cX4_count : ByteArray := prog_1_method_22_code
def yX4_count : MethodName := ⟨RX4, "count", "(I)I"⟩
abbrev cX4_trace : ByteArray := prog_1_method_23_code
def yX4_trace : MethodName := ⟨RX4, "trace", "()J"⟩
abbrev cX4_within : ByteArray := prog_1_method_24_code
def yX4_within : MethodName := ⟨RX4, "within", "(III)Z"⟩
abbrev cX4_shipNumbered : ByteArray := prog_1_method_25_code
def yX4_shipNumbered : MethodName := ⟨RX4, "shipNumbered", "(I)LRockRoad$Ship;"⟩
abbrev cX4_chutesShut : ByteArray := prog_1_method_26_code
def yX4_chutesShut : MethodName := ⟨RX4, "chutesShut", "(I)Z"⟩
abbrev cX4_lightersShut : ByteArray := prog_1_method_27_code
def yX4_lightersShut : MethodName := ⟨RX4, "lightersShut", "(I)Z"⟩
abbrev cX4_letOneDayGo : ByteArray := prog_1_method_28_code
def yX4_letOneDayGo : MethodName := ⟨RX4, "letOneDayGo", "()V"⟩
abbrev cX4_lineUp : ByteArray := prog_1_method_29_code
def yX4_lineUp : MethodName := ⟨RX4, "lineUp", "()I"⟩
abbrev cX4_standInLine : ByteArray := prog_1_method_30_code
def yX4_standInLine : MethodName := ⟨RX4, "standInLine", "(LRockRoad$Ship;I)V"⟩
abbrev cX4_loadLine : ByteArray := prog_1_method_31_code
def yX4_loadLine : MethodName := ⟨RX4, "loadLine", "(I)I"⟩
abbrev cX4_tonsAt : ByteArray := prog_1_method_32_code
def yX4_tonsAt : MethodName := ⟨RX4, "tonsAt", "(I)I"⟩
abbrev cX4_tonsWanted : ByteArray := prog_1_method_33_code
def yX4_tonsWanted : MethodName := ⟨RX4, "tonsWanted", "()I"⟩
abbrev cX4_loadedShips : ByteArray := prog_1_method_34_code
def yX4_loadedShips : MethodName := ⟨RX4, "loadedShips", "()I"⟩
abbrev cX4_dryShips : ByteArray := prog_1_method_35_code
def yX4_dryShips : MethodName := ⟨RX4, "dryShips", "()I"⟩
abbrev cX4_lastDayOf : ByteArray := prog_1_method_36_code
def yX4_lastDayOf : MethodName := ⟨RX4, "lastDayOf", "(LRockRoad$Ship;)I"⟩
abbrev cX4_counts : ByteArray := prog_1_method_37_code
def yX4_counts : MethodName := ⟨RX4, "counts", "(LRockRoad$Ship;I)Z"⟩
abbrev cX4_usedBy : ByteArray := prog_1_method_38_code
def yX4_usedBy : MethodName := ⟨RX4, "usedBy", "(LRockRoad$Ship;)I"⟩
abbrev cX4_owedBy : ByteArray := prog_1_method_39_code
def yX4_owedBy : MethodName := ⟨RX4, "owedBy", "(LRockRoad$Ship;)I"⟩
abbrev cX4_shareOf : ByteArray := prog_1_method_40_code
def yX4_shareOf : MethodName := ⟨RX4, "shareOf", "(LRockRoad$Ship;I)I"⟩
def RX5 : String := "RockRoadModel"
def TX5 : u_T := fun k => match k with
  | 0 => ("RockRoadModel", "thrown", "I", false)
  | 1 => ("RockRoadModel", "trace", "J", false)
  | 2 => ("RockRoadModel", "today", "I", false)
  | 3 => ("RockRoadModel", "swell", "[I", true)
  | 4 => ("RockRoadModel", "layers", "I", false)
  | 5 => ("RockRoadModel", "tons", "[I", true)
  | 6 => ("RockRoadModel", "worth", "[I", true)
  | 7 => ("RockRoadModel", "ships", "I", false)
  | 8 => ("RockRoadModel", "kind", "[I", true)
  | 9 => ("RockRoadModel", "came", "[I", true)
  | 10 => ("RockRoadModel", "wants", "[I", true)
  | 11 => ("RockRoadModel", "water", "[I", true)
  | 12 => ("RockRoadModel", "done", "[I", true)
  | 13 => ("RockRoadModel", "cargo", "[I", true)
  | 14 => ("RockRoadModel", "took", "[I", true)
  | 15 => ("RockRoadModel", "queue", "[I", true)
  | 16 => ("RockRoadModel", "dug", "[I", true)
  | 17 => ("RockRoadModel", "comes", "[I", true)
  | 18 => ("RockRoadModel", "delay", "I", false)
  | 19 => ("RockRoadModel", "dugEver", "I", false)
  | 20 => ("RockRoadModel", "draft", "[I", true)
  | 21 => ("RockRoadModel", "drafted", "I", false)
  | 22 => ("RockRoadModel", "terms", "[I", true)
  | 23 => ("RockRoadModel", "read", "[I", true)
  | _ => ("RockRoadModel", "isMet", "[Z", true)
def tyX5 : Nat → FieldType := fun k => match k with
  | 0 => .int
  | 1 => .long
  | 2 => .int
  | 3 => .array .int
  | 4 => .int
  | 5 => .array .int
  | 6 => .array .int
  | 7 => .int
  | 8 => .array .int
  | 9 => .array .int
  | 10 => .array .int
  | 11 => .array .int
  | 12 => .array .int
  | 13 => .array .int
  | 14 => .array .int
  | 15 => .array .int
  | 16 => .array .int
  | 17 => .array .int
  | 18 => .int
  | 19 => .int
  | 20 => .array .int
  | 21 => .int
  | 22 => .array .int
  | 23 => .array .int
  | _ => .array .boolean
abbrev wsX50 : List Cond := u_ws RX5 TX5 25
theorem nmX5 : ∀ a, a < 25 → ∀ b, b < 25 → a ≠ b → (TX5 a).2.1 ≠ (TX5 b).2.1 := by decide +kernel
theorem tyX5_ok : ∀ k, k < 25 → parseFieldDescriptor (TX5 k).2.2.1 = some (tyX5 k) := by decide +kernel
abbrev cX5_init : ByteArray := prog_7_method_1_code
def yX5_init : MethodName := ⟨RX5, "<init>", "()V"⟩
abbrev cX5_in : ByteArray := prog_7_method_3_code
def yX5_in : MethodName := ⟨RX5, "in", "(III)Z"⟩
abbrev cX5_layer : ByteArray := prog_7_method_4_code
def yX5_layer : MethodName := ⟨RX5, "layer", "(II)I"⟩
abbrev cX5_left : ByteArray := prog_7_method_5_code
def yX5_left : MethodName := ⟨RX5, "left", "(I)I"⟩
abbrev cX5_swell : ByteArray := prog_7_method_6_code
def yX5_swell : MethodName := ⟨RX5, "swell", "(II)I"⟩
abbrev cX5_isShip : ByteArray := prog_7_method_7_code
def yX5_isShip : MethodName := ⟨RX5, "isShip", "(I)Z"⟩
abbrev cX5_ship : ByteArray := prog_7_method_8_code
def yX5_ship : MethodName := ⟨RX5, "ship", "(III)I"⟩
abbrev cX5_turnOf : ByteArray := prog_7_method_9_code
def yX5_turnOf : MethodName := ⟨RX5, "turnOf", "(I)I"⟩
abbrev cX5_turn : ByteArray := prog_7_method_10_code
def yX5_turn : MethodName := ⟨RX5, "turn", "(I)I"⟩
abbrev cX5_isLoaded : ByteArray := prog_7_method_11_code
def yX5_isLoaded : MethodName := ⟨RX5, "isLoaded", "(I)Z"⟩
abbrev cX5_loads : ByteArray := prog_7_method_12_code
def yX5_loads : MethodName := ⟨RX5, "loads", "(II)I"⟩
abbrev cX5_goes : ByteArray := prog_7_method_13_code
def yX5_goes : MethodName := ⟨RX5, "goes", "()V"⟩
abbrev cX5_days : ByteArray := prog_7_method_14_code
def yX5_days : MethodName := ⟨RX5, "days", "(I)I"⟩
abbrev cX5_tonsOf : ByteArray := prog_7_method_15_code
def yX5_tonsOf : MethodName := ⟨RX5, "tonsOf", "(I)I"⟩
abbrev cX5_worthOf : ByteArray := prog_7_method_16_code
def yX5_worthOf : MethodName := ⟨RX5, "worthOf", "(I)I"⟩
abbrev cX5_about : ByteArray := prog_7_method_17_code
def yX5_about : MethodName := ⟨RX5, "about", "(II)I"⟩
abbrev cX5_cargo : ByteArray := prog_7_method_18_code
def yX5_cargo : MethodName := ⟨RX5, "cargo", "(II)I"⟩
abbrev cX5_loaded : ByteArray := prog_7_method_19_code
def yX5_loaded : MethodName := ⟨RX5, "loaded", "(II)I"⟩
abbrev cX5_boat : ByteArray := prog_7_method_20_code
def yX5_boat : MethodName := ⟨RX5, "boat", "(II)I"⟩
abbrev cX5_sample : ByteArray := prog_7_method_21_code
def yX5_sample : MethodName := ⟨RX5, "sample", "(II)I"⟩
abbrev cX5_type : ByteArray := prog_7_method_22_code
def yX5_type : MethodName := ⟨RX5, "type", "(JI)I"⟩
abbrev cX5_clear : ByteArray := prog_7_method_23_code
def yX5_clear : MethodName := ⟨RX5, "clear", "()I"⟩
abbrev cX5_isDigit : ByteArray := prog_7_method_24_code
def yX5_isDigit : MethodName := ⟨RX5, "isDigit", "(I)Z"⟩
abbrev cX5_faultOf : ByteArray := prog_7_method_25_code
def yX5_faultOf : MethodName := ⟨RX5, "faultOf", "()I"⟩
abbrev cX5_charter : ByteArray := prog_7_method_26_code
def yX5_charter : MethodName := ⟨RX5, "charter", "(I)I"⟩
abbrev cX5_term : ByteArray := prog_7_method_27_code
def yX5_term : MethodName := ⟨RX5, "term", "(II)I"⟩
abbrev cX5_counts : ByteArray := prog_7_method_28_code
def yX5_counts : MethodName := ⟨RX5, "counts", "(II)Z"⟩
abbrev cX5_last : ByteArray := prog_7_method_29_code
def yX5_last : MethodName := ⟨RX5, "last", "(I)I"⟩
abbrev cX5_usedOf : ByteArray := prog_7_method_30_code
def yX5_usedOf : MethodName := ⟨RX5, "usedOf", "(I)I"⟩
abbrev cX5_owed : ByteArray := prog_7_method_31_code
def yX5_owed : MethodName := ⟨RX5, "owed", "(II)I"⟩
abbrev cX5_shared : ByteArray := prog_7_method_32_code
def yX5_shared : MethodName := ⟨RX5, "shared", "(II)I"⟩
abbrev cX5_delay : ByteArray := prog_7_method_33_code
def yX5_delay : MethodName := ⟨RX5, "delay", "(I)I"⟩
abbrev cX5_isHere : ByteArray := prog_7_method_34_code
def yX5_isHere : MethodName := ⟨RX5, "isHere", "(I)Z"⟩
abbrev cX5_letter : ByteArray := prog_7_method_35_code
def yX5_letter : MethodName := ⟨RX5, "letter", "(II)I"⟩
abbrev cX5_foretold : ByteArray := prog_7_method_36_code
def yX5_foretold : MethodName := ⟨RX5, "foretold", "()I"⟩
abbrev cX5_count : ByteArray := prog_7_method_37_code
def yX5_count : MethodName := ⟨RX5, "count", "(I)I"⟩
abbrev cX5_trace : ByteArray := prog_7_method_38_code
def yX5_trace : MethodName := ⟨RX5, "trace", "()J"⟩
def RL : String := "RockRoadLaw"
abbrev cL_law : ByteArray := code
def yL_law : MethodName := ⟨RL, "law", "([I)Z"⟩
abbrev vwCl : List vw_C := [(RX0, TX0, 3), (RX1, TX1, 3), (RX2, TX2, 3), (RX3, TX3, 10), (RX4, TX4, 10), (RX5, TX5, 25)]
def lw_all : List Cond := lw_tbl.filter goodWord
theorem lw_m {w : Cond} (h : w ∈ lw_tbl) (hg : goodWord w = true) : w ∈ lw_all := List.mem_filter.mpr ⟨h, hg⟩
theorem lw_gd {w : Cond} (h : w ∈ lw_all) : w ∈ lw_all ∧ ((w.onTables && w.keeps) = true ∨ ∃ ty, w = .arrayClass ty) := ⟨h, good_of_word (List.mem_filter.mp h).2⟩
/-- a method's words: its code, then all the tables -/
abbrev wM (y : MethodName) (b : ByteArray) (n : Nat) (r : Option FieldType) : List Cond := Cond.code y b n r :: lw_all
theorem wM_V {own C : String} {idx : Nat} {y : MethodName} {b : ByteArray} {n : Nat} {r : Option FieldType} (h1 : Cond.methodLink own idx y ∈ lw_all) (h2 : Cond.instanceMethod y ∈ lw_all) (h3 : Cond.selects C y y ∈ lw_all) (h4 : Cond.initialized C ∈ lw_all) (h5 : Cond.code y b n r ∈ lw_all) : GoodIn lw_all (wsV own idx C y (wM y b n r)) := by
  intro w hw
  have hw : w ∈ ([.methodLink own idx y, .instanceMethod y, .selects C y y, .initialized C] : List Cond) ++ (Cond.code y b n r :: lw_all) := hw
  simp only [List.mem_append, List.mem_cons, List.not_mem_nil, or_false] at hw
  rcases hw with (rfl | rfl | rfl | rfl) | rfl | hw
  · exact lw_gd h1
  · exact lw_gd h2
  · exact lw_gd h3
  · exact lw_gd h4
  · exact lw_gd h5
  · exact lw_gd hw
theorem wM_S {own : String} {idx : Nat} {y : MethodName} {b : ByteArray} {n : Nat} {r : Option FieldType} (h1 : Cond.methodLink own idx y ∈ lw_all) (h2 : Cond.static y ∈ lw_all) (h4 : Cond.initialized y.cls ∈ lw_all) (h5 : Cond.code y b n r ∈ lw_all) : GoodIn lw_all (va_wsS own idx y (wM y b n r)) := by
  intro w hw
  have hw : w ∈ ([.methodLink own idx y, .static y, .initialized y.cls] : List Cond) ++ (Cond.code y b n r :: lw_all) := hw
  simp only [List.mem_append, List.mem_cons, List.not_mem_nil, or_false] at hw
  rcases hw with (rfl | rfl | rfl) | rfl | hw
  · exact lw_gd h1
  · exact lw_gd h2
  · exact lw_gd h4
  · exact lw_gd h5
  · exact lw_gd hw
theorem wM_I {y : MethodName} {b : ByteArray} {n : Nat} {r : Option FieldType} (h5 : Cond.code y b n r ∈ lw_all) : GoodIn lw_all (wM y b n r) := by
  intro w hw
  rcases List.mem_cons.mp hw with rfl | hw
  · exact lw_gd h5
  · exact lw_gd hw
theorem inX0 : ∀ w ∈ wsX00, w ∈ lw_all := fun w h => lw_m ((show ∀ w ∈ wsX00, w ∈ lw_tbl by decide +kernel) w h) ((show ∀ w ∈ wsX00, goodWord w = true by decide +kernel) w h)
theorem inX1 : ∀ w ∈ wsX10, w ∈ lw_all := fun w h => lw_m ((show ∀ w ∈ wsX10, w ∈ lw_tbl by decide +kernel) w h) ((show ∀ w ∈ wsX10, goodWord w = true by decide +kernel) w h)
theorem inX2 : ∀ w ∈ wsX20, w ∈ lw_all := fun w h => lw_m ((show ∀ w ∈ wsX20, w ∈ lw_tbl by decide +kernel) w h) ((show ∀ w ∈ wsX20, goodWord w = true by decide +kernel) w h)
theorem inX3 : ∀ w ∈ wsX30, w ∈ lw_all := fun w h => lw_m ((show ∀ w ∈ wsX30, w ∈ lw_tbl by decide +kernel) w h) ((show ∀ w ∈ wsX30, goodWord w = true by decide +kernel) w h)
theorem inX4 : ∀ w ∈ wsX40, w ∈ lw_all := fun w h => lw_m ((show ∀ w ∈ wsX40, w ∈ lw_tbl by decide +kernel) w h) ((show ∀ w ∈ wsX40, goodWord w = true by decide +kernel) w h)
theorem inX5 : ∀ w ∈ wsX50, w ∈ lw_all := fun w h => lw_m ((show ∀ w ∈ wsX50, w ∈ lw_tbl by decide +kernel) w h) ((show ∀ w ∈ wsX50, goodWord w = true by decide +kernel) w h)
theorem ks_X4_shipNumbered : Cond.selects RX4 yX4_shipNumbered yX4_shipNumbered ∈ lw_all := lw_m (List.mem_of_getElem? (i := 0) (by decide +kernel)) rfl
theorem ks_X4_letOneDayGo : Cond.selects RX4 yX4_letOneDayGo yX4_letOneDayGo ∈ lw_all := lw_m (List.mem_of_getElem? (i := 1) (by decide +kernel)) rfl
theorem ks_X4_lineUp : Cond.selects RX4 yX4_lineUp yX4_lineUp ∈ lw_all := lw_m (List.mem_of_getElem? (i := 2) (by decide +kernel)) rfl
theorem ks_X4_standInLine : Cond.selects RX4 yX4_standInLine yX4_standInLine ∈ lw_all := lw_m (List.mem_of_getElem? (i := 3) (by decide +kernel)) rfl
theorem ks_X4_loadLine : Cond.selects RX4 yX4_loadLine yX4_loadLine ∈ lw_all := lw_m (List.mem_of_getElem? (i := 4) (by decide +kernel)) rfl
theorem ks_X4_tonsAt : Cond.selects RX4 yX4_tonsAt yX4_tonsAt ∈ lw_all := lw_m (List.mem_of_getElem? (i := 5) (by decide +kernel)) rfl
theorem ks_X4_chutesShut : Cond.selects RX4 yX4_chutesShut yX4_chutesShut ∈ lw_all := lw_m (List.mem_of_getElem? (i := 6) (by decide +kernel)) rfl
theorem ks_X4_lightersShut : Cond.selects RX4 yX4_lightersShut yX4_lightersShut ∈ lw_all := lw_m (List.mem_of_getElem? (i := 7) (by decide +kernel)) rfl
theorem ks_X4_tonsWanted : Cond.selects RX4 yX4_tonsWanted yX4_tonsWanted ∈ lw_all := lw_m (List.mem_of_getElem? (i := 8) (by decide +kernel)) rfl
theorem ks_X0_addDigit : Cond.selects RX0 yX0_addDigit yX0_addDigit ∈ lw_all := lw_m (List.mem_of_getElem? (i := 9) (by decide +kernel)) rfl
theorem ks_X4_usedBy : Cond.selects RX4 yX4_usedBy yX4_usedBy ∈ lw_all := lw_m (List.mem_of_getElem? (i := 10) (by decide +kernel)) rfl
theorem ks_X4_lastDayOf : Cond.selects RX4 yX4_lastDayOf yX4_lastDayOf ∈ lw_all := lw_m (List.mem_of_getElem? (i := 11) (by decide +kernel)) rfl
theorem ks_X4_counts : Cond.selects RX4 yX4_counts yX4_counts ∈ lw_all := lw_m (List.mem_of_getElem? (i := 12) (by decide +kernel)) rfl
theorem ks_X4_owedBy : Cond.selects RX4 yX4_owedBy yX4_owedBy ∈ lw_all := lw_m (List.mem_of_getElem? (i := 13) (by decide +kernel)) rfl
theorem ks_X4_shareOf : Cond.selects RX4 yX4_shareOf yX4_shareOf ∈ lw_all := lw_m (List.mem_of_getElem? (i := 14) (by decide +kernel)) rfl
theorem ks_X2_latestCome : Cond.selects RX2 yX2_latestCome yX2_latestCome ∈ lw_all := lw_m (List.mem_of_getElem? (i := 15) (by decide +kernel)) rfl
theorem ks_X4_loadedShips : Cond.selects RX4 yX4_loadedShips yX4_loadedShips ∈ lw_all := lw_m (List.mem_of_getElem? (i := 16) (by decide +kernel)) rfl
theorem ks_X4_dryShips : Cond.selects RX4 yX4_dryShips yX4_dryShips ∈ lw_all := lw_m (List.mem_of_getElem? (i := 17) (by decide +kernel)) rfl
theorem ks_X5_isShip : Cond.selects RX5 yX5_isShip yX5_isShip ∈ lw_all := lw_m (List.mem_of_getElem? (i := 18) (by decide +kernel)) rfl
theorem ks_X5_turnOf : Cond.selects RX5 yX5_turnOf yX5_turnOf ∈ lw_all := lw_m (List.mem_of_getElem? (i := 19) (by decide +kernel)) rfl
theorem ks_X5_goes : Cond.selects RX5 yX5_goes yX5_goes ∈ lw_all := lw_m (List.mem_of_getElem? (i := 20) (by decide +kernel)) rfl
theorem ks_X5_isLoaded : Cond.selects RX5 yX5_isLoaded yX5_isLoaded ∈ lw_all := lw_m (List.mem_of_getElem? (i := 21) (by decide +kernel)) rfl
theorem ks_X5_loads : Cond.selects RX5 yX5_loads yX5_loads ∈ lw_all := lw_m (List.mem_of_getElem? (i := 22) (by decide +kernel)) rfl
theorem ks_X5_tonsOf : Cond.selects RX5 yX5_tonsOf yX5_tonsOf ∈ lw_all := lw_m (List.mem_of_getElem? (i := 23) (by decide +kernel)) rfl
theorem ks_X5_worthOf : Cond.selects RX5 yX5_worthOf yX5_worthOf ∈ lw_all := lw_m (List.mem_of_getElem? (i := 24) (by decide +kernel)) rfl
theorem ks_X5_faultOf : Cond.selects RX5 yX5_faultOf yX5_faultOf ∈ lw_all := lw_m (List.mem_of_getElem? (i := 25) (by decide +kernel)) rfl
theorem ks_X5_isDigit : Cond.selects RX5 yX5_isDigit yX5_isDigit ∈ lw_all := lw_m (List.mem_of_getElem? (i := 26) (by decide +kernel)) rfl
theorem ks_X5_usedOf : Cond.selects RX5 yX5_usedOf yX5_usedOf ∈ lw_all := lw_m (List.mem_of_getElem? (i := 27) (by decide +kernel)) rfl
theorem ks_X5_last : Cond.selects RX5 yX5_last yX5_last ∈ lw_all := lw_m (List.mem_of_getElem? (i := 28) (by decide +kernel)) rfl
theorem ks_X5_counts : Cond.selects RX5 yX5_counts yX5_counts ∈ lw_all := lw_m (List.mem_of_getElem? (i := 29) (by decide +kernel)) rfl
theorem ks_X5_isHere : Cond.selects RX5 yX5_isHere yX5_isHere ∈ lw_all := lw_m (List.mem_of_getElem? (i := 30) (by decide +kernel)) rfl
theorem kn_L : Cond.initialized RL ∈ lw_all := lw_m (List.mem_of_getElem? (i := 31) (by decide +kernel)) rfl
theorem kn_X4 : Cond.initialized RX4 ∈ lw_all := lw_m (List.mem_of_getElem? (i := 32) (by decide +kernel)) rfl
theorem kn_X1 : Cond.initialized RX1 ∈ lw_all := lw_m (List.mem_of_getElem? (i := 33) (by decide +kernel)) rfl
theorem kn_X0 : Cond.initialized RX0 ∈ lw_all := lw_m (List.mem_of_getElem? (i := 34) (by decide +kernel)) rfl
theorem kn_X2 : Cond.initialized RX2 ∈ lw_all := lw_m (List.mem_of_getElem? (i := 35) (by decide +kernel)) rfl
theorem kn_X5 : Cond.initialized RX5 ∈ lw_all := lw_m (List.mem_of_getElem? (i := 36) (by decide +kernel)) rfl
theorem kn_X3 : Cond.initialized RX3 ∈ lw_all := lw_m (List.mem_of_getElem? (i := 37) (by decide +kernel)) rfl
theorem kn_Math : Cond.initialized "java/lang/Math" ∈ lw_all := lw_m (List.mem_of_getElem? (i := 38) (by decide +kernel)) rfl
theorem kn_System : Cond.initialized "java/lang/System" ∈ lw_all := lw_m (List.mem_of_getElem? (i := 39) (by decide +kernel)) rfl
theorem klL_7 : Cond.classLink RL 7 RX4 ∈ lw_all := lw_m (List.mem_of_getElem? (i := 40) (by decide +kernel)) rfl
theorem kq_X4 : Cond.instantiable RX4 10 ∈ lw_all := lw_m (List.mem_of_getElem? (i := 41) (by decide +kernel)) rfl
theorem kmL_9 : Cond.methodLink RL 9 yX4_init ∈ lw_all := lw_m (List.mem_of_getElem? (i := 42) (by decide +kernel)) rfl
theorem ki_X4_init : Cond.instanceMethod yX4_init ∈ lw_all := lw_m (List.mem_of_getElem? (i := 43) (by decide +kernel)) rfl
theorem kc_X4_init : Cond.code yX4_init cX4_init 1 (none : Option FieldType) ∈ lw_all := lw_m (List.mem_of_getElem? (i := 44) (by decide +kernel)) rfl
theorem kmX4_1 : Cond.methodLink RX4 1 objectInit ∈ lw_all := lw_m (List.mem_of_getElem? (i := 45) (by decide +kernel)) rfl
theorem ki_O_init : Cond.instanceMethod objectInit ∈ lw_all := lw_m (List.mem_of_getElem? (i := 46) (by decide +kernel)) rfl
theorem kc_O_init : Cond.code objectInit ⟨#[0xb1]⟩ 1 (none : Option FieldType) ∈ lw_all := lw_m (List.mem_of_getElem? (i := 47) (by decide +kernel)) rfl
theorem klX4_13 : Cond.classLink RX4 13 RX1 ∈ lw_all := lw_m (List.mem_of_getElem? (i := 48) (by decide +kernel)) rfl
theorem kq_X1 : Cond.instantiable RX1 3 ∈ lw_all := lw_m (List.mem_of_getElem? (i := 49) (by decide +kernel)) rfl
theorem kmnX4_15 : Cond.methodLinkNest RX4 15 yX1_init "RockRoad" ∈ lw_tbl := List.mem_of_getElem? (i := 50) (by decide +kernel)
theorem ki_X1_init : Cond.instanceMethod yX1_init ∈ lw_all := lw_m (List.mem_of_getElem? (i := 51) (by decide +kernel)) rfl
theorem kc_X1_init : Cond.code yX1_init cX1_init 1 (none : Option FieldType) ∈ lw_all := lw_m (List.mem_of_getElem? (i := 52) (by decide +kernel)) rfl
theorem kmX1_3 : Cond.methodLink RX1 3 objectInit ∈ lw_all := lw_m (List.mem_of_getElem? (i := 53) (by decide +kernel)) rfl
theorem kfX1_9 : Cond.fieldLink RX1 9 "RockRoad$Layers" "tons" "[I" ∈ lw_all := lw_m (List.mem_of_getElem? (i := 54) (by decide +kernel)) rfl
theorem kfX4_72 : Cond.fieldLink RX4 72 "RockRoad$Layers" "tons" "[I" ∈ lw_all := lw_m (List.mem_of_getElem? (i := 55) (by decide +kernel)) rfl
theorem kfX1_15 : Cond.fieldLink RX1 15 "RockRoad$Layers" "worths" "[I" ∈ lw_all := lw_m (List.mem_of_getElem? (i := 56) (by decide +kernel)) rfl
theorem kfX1_18 : Cond.fieldLink RX1 18 "RockRoad$Layers" "size" "I" ∈ lw_all := lw_m (List.mem_of_getElem? (i := 57) (by decide +kernel)) rfl
theorem kfX4_61 : Cond.fieldLink RX4 61 "RockRoad$Layers" "size" "I" ∈ lw_all := lw_m (List.mem_of_getElem? (i := 58) (by decide +kernel)) rfl
theorem ka_int : Cond.arrayClass .int ∈ lw_all := lw_m (List.mem_of_getElem? (i := 66) (by decide +kernel)) rfl
theorem klX4_20 : Cond.classLink RX4 20 RX3 ∈ lw_all := lw_m (List.mem_of_getElem? (i := 67) (by decide +kernel)) rfl
theorem kao : Cond.arrayOver (.object "RockRoad$Ship") ∈ lw_tbl := List.mem_of_getElem? (i := 68) (by decide +kernel)
theorem klX4_29 : Cond.classLink RX4 29 RX0 ∈ lw_all := lw_m (List.mem_of_getElem? (i := 69) (by decide +kernel)) rfl
theorem kq_X0 : Cond.instantiable RX0 3 ∈ lw_all := lw_m (List.mem_of_getElem? (i := 70) (by decide +kernel)) rfl
theorem kmnX4_31 : Cond.methodLinkNest RX4 31 yX0_init "RockRoad" ∈ lw_tbl := List.mem_of_getElem? (i := 71) (by decide +kernel)
theorem ki_X0_init : Cond.instanceMethod yX0_init ∈ lw_all := lw_m (List.mem_of_getElem? (i := 72) (by decide +kernel)) rfl
theorem kc_X0_init : Cond.code yX0_init cX0_init 1 (none : Option FieldType) ∈ lw_all := lw_m (List.mem_of_getElem? (i := 73) (by decide +kernel)) rfl
theorem kmX0_3 : Cond.methodLink RX0 3 objectInit ∈ lw_all := lw_m (List.mem_of_getElem? (i := 74) (by decide +kernel)) rfl
theorem kfX0_9 : Cond.fieldLink RX0 9 "RockRoad$Draft" "bytes" "[I" ∈ lw_all := lw_m (List.mem_of_getElem? (i := 75) (by decide +kernel)) rfl
theorem kfX0_15 : Cond.fieldLink RX0 15 "RockRoad$Draft" "terms" "[I" ∈ lw_all := lw_m (List.mem_of_getElem? (i := 76) (by decide +kernel)) rfl
theorem kfX4_143 : Cond.fieldLink RX4 143 "RockRoad$Draft" "terms" "[I" ∈ lw_all := lw_m (List.mem_of_getElem? (i := 77) (by decide +kernel)) rfl
theorem kfX0_18 : Cond.fieldLink RX0 18 "RockRoad$Draft" "length" "I" ∈ lw_all := lw_m (List.mem_of_getElem? (i := 78) (by decide +kernel)) rfl
theorem kfX4_132 : Cond.fieldLink RX4 132 "RockRoad$Draft" "length" "I" ∈ lw_all := lw_m (List.mem_of_getElem? (i := 79) (by decide +kernel)) rfl
theorem klX4_36 : Cond.classLink RX4 36 RX2 ∈ lw_all := lw_m (List.mem_of_getElem? (i := 87) (by decide +kernel)) rfl
theorem kq_X2 : Cond.instantiable RX2 3 ∈ lw_all := lw_m (List.mem_of_getElem? (i := 88) (by decide +kernel)) rfl
theorem kmnX4_38 : Cond.methodLinkNest RX4 38 yX2_init "RockRoad" ∈ lw_tbl := List.mem_of_getElem? (i := 89) (by decide +kernel)
theorem ki_X2_init : Cond.instanceMethod yX2_init ∈ lw_all := lw_m (List.mem_of_getElem? (i := 90) (by decide +kernel)) rfl
theorem kc_X2_init : Cond.code yX2_init cX2_init 1 (none : Option FieldType) ∈ lw_all := lw_m (List.mem_of_getElem? (i := 91) (by decide +kernel)) rfl
theorem kmX2_3 : Cond.methodLink RX2 3 objectInit ∈ lw_all := lw_m (List.mem_of_getElem? (i := 92) (by decide +kernel)) rfl
theorem kfX2_9 : Cond.fieldLink RX2 9 "RockRoad$Letters" "queues" "[I" ∈ lw_all := lw_m (List.mem_of_getElem? (i := 93) (by decide +kernel)) rfl
theorem kfX4_175 : Cond.fieldLink RX4 175 "RockRoad$Letters" "queues" "[I" ∈ lw_all := lw_m (List.mem_of_getElem? (i := 94) (by decide +kernel)) rfl
theorem kfX2_15 : Cond.fieldLink RX2 15 "RockRoad$Letters" "dug" "[I" ∈ lw_all := lw_m (List.mem_of_getElem? (i := 95) (by decide +kernel)) rfl
theorem kfX4_178 : Cond.fieldLink RX4 178 "RockRoad$Letters" "dug" "[I" ∈ lw_all := lw_m (List.mem_of_getElem? (i := 96) (by decide +kernel)) rfl
theorem kfX2_18 : Cond.fieldLink RX2 18 "RockRoad$Letters" "comings" "[I" ∈ lw_all := lw_m (List.mem_of_getElem? (i := 97) (by decide +kernel)) rfl
theorem kfX4_172 : Cond.fieldLink RX4 172 "RockRoad$Letters" "comings" "[I" ∈ lw_all := lw_m (List.mem_of_getElem? (i := 98) (by decide +kernel)) rfl
theorem kfX4_9 : Cond.fieldLink RX4 9 "RockRoad" "swells" "[I" ∈ lw_all := lw_m (List.mem_of_getElem? (i := 106) (by decide +kernel)) rfl
theorem kfX4_16 : Cond.fieldLink RX4 16 "RockRoad" "layers" "LRockRoad$Layers;" ∈ lw_all := lw_m (List.mem_of_getElem? (i := 107) (by decide +kernel)) rfl
theorem kfX4_22 : Cond.fieldLink RX4 22 "RockRoad" "ships" "[LRockRoad$Ship;" ∈ lw_all := lw_m (List.mem_of_getElem? (i := 108) (by decide +kernel)) rfl
theorem kfX4_26 : Cond.fieldLink RX4 26 "RockRoad" "line" "[LRockRoad$Ship;" ∈ lw_all := lw_m (List.mem_of_getElem? (i := 109) (by decide +kernel)) rfl
theorem kfX4_32 : Cond.fieldLink RX4 32 "RockRoad" "draft" "LRockRoad$Draft;" ∈ lw_all := lw_m (List.mem_of_getElem? (i := 110) (by decide +kernel)) rfl
theorem kfX4_39 : Cond.fieldLink RX4 39 "RockRoad" "letters" "LRockRoad$Letters;" ∈ lw_all := lw_m (List.mem_of_getElem? (i := 111) (by decide +kernel)) rfl
theorem kfX4_43 : Cond.fieldLink RX4 43 "RockRoad" "today" "I" ∈ lw_all := lw_m (List.mem_of_getElem? (i := 112) (by decide +kernel)) rfl
theorem kfX4_47 : Cond.fieldLink RX4 47 "RockRoad" "shipCount" "I" ∈ lw_all := lw_m (List.mem_of_getElem? (i := 113) (by decide +kernel)) rfl
theorem kfX4_50 : Cond.fieldLink RX4 50 "RockRoad" "delay" "I" ∈ lw_all := lw_m (List.mem_of_getElem? (i := 114) (by decide +kernel)) rfl
theorem kfX4_53 : Cond.fieldLink RX4 53 "RockRoad" "trace" "J" ∈ lw_all := lw_m (List.mem_of_getElem? (i := 115) (by decide +kernel)) rfl
theorem kmL_13 : Cond.methodLink RL 13 yX4_layer ∈ lw_all := lw_m (List.mem_of_getElem? (i := 137) (by decide +kernel)) rfl
theorem ki_X4_layer : Cond.instanceMethod yX4_layer ∈ lw_all := lw_m (List.mem_of_getElem? (i := 138) (by decide +kernel)) rfl
theorem ks_X4_layer : Cond.selects RX4 yX4_layer yX4_layer ∈ lw_all := lw_m (List.mem_of_getElem? (i := 139) (by decide +kernel)) rfl
theorem kc_X4_layer : Cond.code yX4_layer cX4_layer 3 (some FieldType.int) ∈ lw_all := lw_m (List.mem_of_getElem? (i := 140) (by decide +kernel)) rfl
theorem kmX4_57 : Cond.methodLink RX4 57 yX4_within ∈ lw_all := lw_m (List.mem_of_getElem? (i := 141) (by decide +kernel)) rfl
theorem kt_X4_within : Cond.static yX4_within ∈ lw_all := lw_m (List.mem_of_getElem? (i := 142) (by decide +kernel)) rfl
theorem kc_X4_within : Cond.code yX4_within cX4_within 3 (some FieldType.boolean) ∈ lw_all := lw_m (List.mem_of_getElem? (i := 143) (by decide +kernel)) rfl
theorem kmX4_64 : Cond.methodLink RX4 64 yX1_lay ∈ lw_all := lw_m (List.mem_of_getElem? (i := 144) (by decide +kernel)) rfl
theorem ki_X1_lay : Cond.instanceMethod yX1_lay ∈ lw_all := lw_m (List.mem_of_getElem? (i := 145) (by decide +kernel)) rfl
theorem ks_X1_lay : Cond.selects RX1 yX1_lay yX1_lay ∈ lw_all := lw_m (List.mem_of_getElem? (i := 146) (by decide +kernel)) rfl
theorem kc_X1_lay : Cond.code yX1_lay cX1_lay 3 (some FieldType.int) ∈ lw_all := lw_m (List.mem_of_getElem? (i := 147) (by decide +kernel)) rfl
theorem kmL_18 : Cond.methodLink RL 18 yX4_left ∈ lw_all := lw_m (List.mem_of_getElem? (i := 148) (by decide +kernel)) rfl
theorem ki_X4_left : Cond.instanceMethod yX4_left ∈ lw_all := lw_m (List.mem_of_getElem? (i := 149) (by decide +kernel)) rfl
theorem ks_X4_left : Cond.selects RX4 yX4_left yX4_left ∈ lw_all := lw_m (List.mem_of_getElem? (i := 150) (by decide +kernel)) rfl
theorem kc_X4_left : Cond.code yX4_left cX4_left 2 (some FieldType.int) ∈ lw_all := lw_m (List.mem_of_getElem? (i := 151) (by decide +kernel)) rfl
theorem kmX4_68 : Cond.methodLink RX4 68 yX1_has ∈ lw_all := lw_m (List.mem_of_getElem? (i := 152) (by decide +kernel)) rfl
theorem ki_X1_has : Cond.instanceMethod yX1_has ∈ lw_all := lw_m (List.mem_of_getElem? (i := 153) (by decide +kernel)) rfl
theorem ks_X1_has : Cond.selects RX1 yX1_has yX1_has ∈ lw_all := lw_m (List.mem_of_getElem? (i := 154) (by decide +kernel)) rfl
theorem kc_X1_has : Cond.code yX1_has cX1_has 2 (some FieldType.boolean) ∈ lw_all := lw_m (List.mem_of_getElem? (i := 155) (by decide +kernel)) rfl
theorem kmL_23 : Cond.methodLink RL 23 yX4_swell ∈ lw_all := lw_m (List.mem_of_getElem? (i := 156) (by decide +kernel)) rfl
theorem ki_X4_swell : Cond.instanceMethod yX4_swell ∈ lw_all := lw_m (List.mem_of_getElem? (i := 157) (by decide +kernel)) rfl
theorem ks_X4_swell : Cond.selects RX4 yX4_swell yX4_swell ∈ lw_all := lw_m (List.mem_of_getElem? (i := 158) (by decide +kernel)) rfl
theorem kc_X4_swell : Cond.code yX4_swell cX4_swell 4 (some FieldType.int) ∈ lw_all := lw_m (List.mem_of_getElem? (i := 159) (by decide +kernel)) rfl
theorem kmL_27 : Cond.methodLink RL 27 yX4_ship ∈ lw_all := lw_m (List.mem_of_getElem? (i := 160) (by decide +kernel)) rfl
theorem ki_X4_ship : Cond.instanceMethod yX4_ship ∈ lw_all := lw_m (List.mem_of_getElem? (i := 161) (by decide +kernel)) rfl
theorem ks_X4_ship : Cond.selects RX4 yX4_ship yX4_ship ∈ lw_all := lw_m (List.mem_of_getElem? (i := 162) (by decide +kernel)) rfl
theorem kc_X4_ship : Cond.code yX4_ship cX4_ship 4 (some FieldType.int) ∈ lw_all := lw_m (List.mem_of_getElem? (i := 163) (by decide +kernel)) rfl
theorem kq_X3 : Cond.instantiable RX3 10 ∈ lw_all := lw_m (List.mem_of_getElem? (i := 164) (by decide +kernel)) rfl
theorem kmX4_75 : Cond.methodLink RX4 75 yX3_init ∈ lw_all := lw_m (List.mem_of_getElem? (i := 165) (by decide +kernel)) rfl
theorem ki_X3_init : Cond.instanceMethod yX3_init ∈ lw_all := lw_m (List.mem_of_getElem? (i := 166) (by decide +kernel)) rfl
theorem kc_X3_init : Cond.code yX3_init cX3_init 6 (none : Option FieldType) ∈ lw_all := lw_m (List.mem_of_getElem? (i := 167) (by decide +kernel)) rfl
theorem kmX3_3 : Cond.methodLink RX3 3 objectInit ∈ lw_all := lw_m (List.mem_of_getElem? (i := 168) (by decide +kernel)) rfl
theorem kfX3_28 : Cond.fieldLink RX3 28 "RockRoad$Ship" "number" "I" ∈ lw_all := lw_m (List.mem_of_getElem? (i := 169) (by decide +kernel)) rfl
theorem kfX3_31 : Cond.fieldLink RX3 31 "RockRoad$Ship" "kind" "I" ∈ lw_all := lw_m (List.mem_of_getElem? (i := 170) (by decide +kernel)) rfl
theorem kfX4_85 : Cond.fieldLink RX4 85 "RockRoad$Ship" "kind" "I" ∈ lw_all := lw_m (List.mem_of_getElem? (i := 171) (by decide +kernel)) rfl
theorem kfX3_34 : Cond.fieldLink RX3 34 "RockRoad$Ship" "arrival" "I" ∈ lw_all := lw_m (List.mem_of_getElem? (i := 172) (by decide +kernel)) rfl
theorem kfX4_95 : Cond.fieldLink RX4 95 "RockRoad$Ship" "arrival" "I" ∈ lw_all := lw_m (List.mem_of_getElem? (i := 173) (by decide +kernel)) rfl
theorem kfX3_9 : Cond.fieldLink RX3 9 "RockRoad$Ship" "cargo" "[I" ∈ lw_all := lw_m (List.mem_of_getElem? (i := 174) (by decide +kernel)) rfl
theorem kfX4_109 : Cond.fieldLink RX4 109 "RockRoad$Ship" "cargo" "[I" ∈ lw_all := lw_m (List.mem_of_getElem? (i := 175) (by decide +kernel)) rfl
theorem kfX3_15 : Cond.fieldLink RX3 15 "RockRoad$Ship" "terms" "[I" ∈ lw_all := lw_m (List.mem_of_getElem? (i := 176) (by decide +kernel)) rfl
theorem kfX4_146 : Cond.fieldLink RX4 146 "RockRoad$Ship" "terms" "[I" ∈ lw_all := lw_m (List.mem_of_getElem? (i := 177) (by decide +kernel)) rfl
theorem kfX3_18 : Cond.fieldLink RX3 18 "RockRoad$Ship" "log" "[I" ∈ lw_all := lw_m (List.mem_of_getElem? (i := 178) (by decide +kernel)) rfl
theorem kfX4_116 : Cond.fieldLink RX4 116 "RockRoad$Ship" "log" "[I" ∈ lw_all := lw_m (List.mem_of_getElem? (i := 179) (by decide +kernel)) rfl
theorem kfX3_37 : Cond.fieldLink RX3 37 "RockRoad$Ship" "wants" "I" ∈ lw_all := lw_m (List.mem_of_getElem? (i := 180) (by decide +kernel)) rfl
theorem kfX4_98 : Cond.fieldLink RX4 98 "RockRoad$Ship" "wants" "I" ∈ lw_all := lw_m (List.mem_of_getElem? (i := 181) (by decide +kernel)) rfl
theorem kfX3_21 : Cond.fieldLink RX3 21 "RockRoad$Ship" "has" "I" ∈ lw_all := lw_m (List.mem_of_getElem? (i := 182) (by decide +kernel)) rfl
theorem kfX4_101 : Cond.fieldLink RX4 101 "RockRoad$Ship" "has" "I" ∈ lw_all := lw_m (List.mem_of_getElem? (i := 183) (by decide +kernel)) rfl
theorem kfX3_40 : Cond.fieldLink RX3 40 "RockRoad$Ship" "water" "I" ∈ lw_all := lw_m (List.mem_of_getElem? (i := 184) (by decide +kernel)) rfl
theorem kfX4_103 : Cond.fieldLink RX4 103 "RockRoad$Ship" "water" "I" ∈ lw_all := lw_m (List.mem_of_getElem? (i := 185) (by decide +kernel)) rfl
theorem kfX3_25 : Cond.fieldLink RX3 25 "RockRoad$Ship" "loadedOn" "I" ∈ lw_all := lw_m (List.mem_of_getElem? (i := 186) (by decide +kernel)) rfl
theorem kfX4_106 : Cond.fieldLink RX4 106 "RockRoad$Ship" "loadedOn" "I" ∈ lw_all := lw_m (List.mem_of_getElem? (i := 187) (by decide +kernel)) rfl
theorem kmL_32 : Cond.methodLink RL 32 yX4_turn ∈ lw_all := lw_m (List.mem_of_getElem? (i := 209) (by decide +kernel)) rfl
theorem ki_X4_turn : Cond.instanceMethod yX4_turn ∈ lw_all := lw_m (List.mem_of_getElem? (i := 210) (by decide +kernel)) rfl
theorem ks_X4_turn : Cond.selects RX4 yX4_turn yX4_turn ∈ lw_all := lw_m (List.mem_of_getElem? (i := 211) (by decide +kernel)) rfl
theorem kc_X4_turn : Cond.code yX4_turn cX4_turn 3 (some FieldType.int) ∈ lw_all := lw_m (List.mem_of_getElem? (i := 212) (by decide +kernel)) rfl
theorem kmX4_78 : Cond.methodLink RX4 78 yX4_shipNumbered ∈ lw_all := lw_m (List.mem_of_getElem? (i := 213) (by decide +kernel)) rfl
theorem ki_X4_shipNumbered : Cond.instanceMethod yX4_shipNumbered ∈ lw_all := lw_m (List.mem_of_getElem? (i := 215) (by decide +kernel)) rfl
theorem kc_X4_shipNumbered : Cond.code yX4_shipNumbered cX4_shipNumbered 2 (some (FieldType.object "RockRoad$Ship")) ∈ lw_all := lw_m (List.mem_of_getElem? (i := 216) (by decide +kernel)) rfl
theorem kfX4_82 : Cond.fieldLink RX4 82 "RockRoad" "TRACE_OF_KIND" "[I" ∈ lw_all := lw_m (List.mem_of_getElem? (i := 217) (by decide +kernel)) rfl
theorem kmX4_88 : Cond.methodLink RX4 88 yX3_turnOn ∈ lw_all := lw_m (List.mem_of_getElem? (i := 219) (by decide +kernel)) rfl
theorem ki_X3_turnOn : Cond.instanceMethod yX3_turnOn ∈ lw_all := lw_m (List.mem_of_getElem? (i := 220) (by decide +kernel)) rfl
theorem ks_X3_turnOn : Cond.selects RX3 yX3_turnOn yX3_turnOn ∈ lw_all := lw_m (List.mem_of_getElem? (i := 221) (by decide +kernel)) rfl
theorem kc_X3_turnOn : Cond.code yX3_turnOn cX3_turnOn 4 (some FieldType.int) ∈ lw_all := lw_m (List.mem_of_getElem? (i := 222) (by decide +kernel)) rfl
theorem kmL_36 : Cond.methodLink RL 36 yX4_days ∈ lw_all := lw_m (List.mem_of_getElem? (i := 223) (by decide +kernel)) rfl
theorem ki_X4_days : Cond.instanceMethod yX4_days ∈ lw_all := lw_m (List.mem_of_getElem? (i := 224) (by decide +kernel)) rfl
theorem ks_X4_days : Cond.selects RX4 yX4_days yX4_days ∈ lw_all := lw_m (List.mem_of_getElem? (i := 225) (by decide +kernel)) rfl
theorem kc_X4_days : Cond.code yX4_days cX4_days 3 (some FieldType.int) ∈ lw_all := lw_m (List.mem_of_getElem? (i := 226) (by decide +kernel)) rfl
theorem kmX4_92 : Cond.methodLink RX4 92 yX4_letOneDayGo ∈ lw_all := lw_m (List.mem_of_getElem? (i := 227) (by decide +kernel)) rfl
theorem ki_X4_letOneDayGo : Cond.instanceMethod yX4_letOneDayGo ∈ lw_all := lw_m (List.mem_of_getElem? (i := 229) (by decide +kernel)) rfl
theorem kc_X4_letOneDayGo : Cond.code yX4_letOneDayGo cX4_letOneDayGo 2 (none : Option FieldType) ∈ lw_all := lw_m (List.mem_of_getElem? (i := 230) (by decide +kernel)) rfl
theorem kmX4_193 : Cond.methodLink RX4 193 yX3_drink ∈ lw_all := lw_m (List.mem_of_getElem? (i := 231) (by decide +kernel)) rfl
theorem ki_X3_drink : Cond.instanceMethod yX3_drink ∈ lw_all := lw_m (List.mem_of_getElem? (i := 232) (by decide +kernel)) rfl
theorem ks_X3_drink : Cond.selects RX3 yX3_drink yX3_drink ∈ lw_all := lw_m (List.mem_of_getElem? (i := 233) (by decide +kernel)) rfl
theorem kc_X3_drink : Cond.code yX3_drink cX3_drink 2 (none : Option FieldType) ∈ lw_all := lw_m (List.mem_of_getElem? (i := 234) (by decide +kernel)) rfl
theorem kmX3_43 : Cond.methodLink RX3 43 yX3_isLoaded ∈ lw_all := lw_m (List.mem_of_getElem? (i := 235) (by decide +kernel)) rfl
theorem ki_X3_isLoaded : Cond.instanceMethod yX3_isLoaded ∈ lw_all := lw_m (List.mem_of_getElem? (i := 236) (by decide +kernel)) rfl
theorem ks_X3_isLoaded : Cond.selects RX3 yX3_isLoaded yX3_isLoaded ∈ lw_all := lw_m (List.mem_of_getElem? (i := 237) (by decide +kernel)) rfl
theorem kc_X3_isLoaded : Cond.code yX3_isLoaded cX3_isLoaded 1 (some FieldType.boolean) ∈ lw_all := lw_m (List.mem_of_getElem? (i := 238) (by decide +kernel)) rfl
theorem kmX3_47 : Cond.methodLink RX3 47 Lib.Math.max.name ∈ lw_all := lw_m (List.mem_of_getElem? (i := 239) (by decide +kernel)) rfl
theorem kt_Math_max : Cond.static Lib.Math.max.name ∈ lw_all := lw_m (List.mem_of_getElem? (i := 240) (by decide +kernel)) rfl
theorem kc_Math_max : Cond.code Lib.Math.max.name Lib.Math.max.code 2 (some FieldType.int) ∈ lw_all := lw_m (List.mem_of_getElem? (i := 241) (by decide +kernel)) rfl
theorem kmX4_197 : Cond.methodLink RX4 197 yX4_lineUp ∈ lw_all := lw_m (List.mem_of_getElem? (i := 242) (by decide +kernel)) rfl
theorem ki_X4_lineUp : Cond.instanceMethod yX4_lineUp ∈ lw_all := lw_m (List.mem_of_getElem? (i := 244) (by decide +kernel)) rfl
theorem kc_X4_lineUp : Cond.code yX4_lineUp cX4_lineUp 3 (some FieldType.int) ∈ lw_all := lw_m (List.mem_of_getElem? (i := 245) (by decide +kernel)) rfl
theorem kmX4_119 : Cond.methodLink RX4 119 yX3_isLoaded ∈ lw_all := lw_m (List.mem_of_getElem? (i := 246) (by decide +kernel)) rfl
theorem kmX4_210 : Cond.methodLink RX4 210 yX3_isDry ∈ lw_all := lw_m (List.mem_of_getElem? (i := 247) (by decide +kernel)) rfl
theorem ki_X3_isDry : Cond.instanceMethod yX3_isDry ∈ lw_all := lw_m (List.mem_of_getElem? (i := 248) (by decide +kernel)) rfl
theorem ks_X3_isDry : Cond.selects RX3 yX3_isDry yX3_isDry ∈ lw_all := lw_m (List.mem_of_getElem? (i := 249) (by decide +kernel)) rfl
theorem kc_X3_isDry : Cond.code yX3_isDry cX3_isDry 1 (some FieldType.boolean) ∈ lw_all := lw_m (List.mem_of_getElem? (i := 250) (by decide +kernel)) rfl
theorem kmX4_213 : Cond.methodLink RX4 213 yX4_standInLine ∈ lw_all := lw_m (List.mem_of_getElem? (i := 251) (by decide +kernel)) rfl
theorem ki_X4_standInLine : Cond.instanceMethod yX4_standInLine ∈ lw_all := lw_m (List.mem_of_getElem? (i := 253) (by decide +kernel)) rfl
theorem kc_X4_standInLine : Cond.code yX4_standInLine cX4_standInLine 4 (none : Option FieldType) ∈ lw_all := lw_m (List.mem_of_getElem? (i := 254) (by decide +kernel)) rfl
theorem kmX4_200 : Cond.methodLink RX4 200 yX4_loadLine ∈ lw_all := lw_m (List.mem_of_getElem? (i := 255) (by decide +kernel)) rfl
theorem ki_X4_loadLine : Cond.instanceMethod yX4_loadLine ∈ lw_all := lw_m (List.mem_of_getElem? (i := 257) (by decide +kernel)) rfl
theorem kc_X4_loadLine : Cond.code yX4_loadLine cX4_loadLine 6 (some FieldType.int) ∈ lw_all := lw_m (List.mem_of_getElem? (i := 258) (by decide +kernel)) rfl
theorem kmX4_217 : Cond.methodLink RX4 217 yX4_tonsAt ∈ lw_all := lw_m (List.mem_of_getElem? (i := 259) (by decide +kernel)) rfl
theorem ki_X4_tonsAt : Cond.instanceMethod yX4_tonsAt ∈ lw_all := lw_m (List.mem_of_getElem? (i := 261) (by decide +kernel)) rfl
theorem kc_X4_tonsAt : Cond.code yX4_tonsAt cX4_tonsAt 2 (some FieldType.int) ∈ lw_all := lw_m (List.mem_of_getElem? (i := 262) (by decide +kernel)) rfl
theorem kmX4_228 : Cond.methodLink RX4 228 yX4_chutesShut ∈ lw_all := lw_m (List.mem_of_getElem? (i := 263) (by decide +kernel)) rfl
theorem ki_X4_chutesShut : Cond.instanceMethod yX4_chutesShut ∈ lw_all := lw_m (List.mem_of_getElem? (i := 265) (by decide +kernel)) rfl
theorem kc_X4_chutesShut : Cond.code yX4_chutesShut cX4_chutesShut 2 (some FieldType.boolean) ∈ lw_all := lw_m (List.mem_of_getElem? (i := 266) (by decide +kernel)) rfl
theorem kmX4_231 : Cond.methodLink RX4 231 yX4_lightersShut ∈ lw_all := lw_m (List.mem_of_getElem? (i := 267) (by decide +kernel)) rfl
theorem ki_X4_lightersShut : Cond.instanceMethod yX4_lightersShut ∈ lw_all := lw_m (List.mem_of_getElem? (i := 269) (by decide +kernel)) rfl
theorem kc_X4_lightersShut : Cond.code yX4_lightersShut cX4_lightersShut 2 (some FieldType.boolean) ∈ lw_all := lw_m (List.mem_of_getElem? (i := 270) (by decide +kernel)) rfl
theorem kmX4_123 : Cond.methodLink RX4 123 Lib.Math.min.name ∈ lw_all := lw_m (List.mem_of_getElem? (i := 271) (by decide +kernel)) rfl
theorem kt_Math_min : Cond.static Lib.Math.min.name ∈ lw_all := lw_m (List.mem_of_getElem? (i := 272) (by decide +kernel)) rfl
theorem kc_Math_min : Cond.code Lib.Math.min.name Lib.Math.min.code 2 (some FieldType.int) ∈ lw_all := lw_m (List.mem_of_getElem? (i := 273) (by decide +kernel)) rfl
theorem kmX4_220 : Cond.methodLink RX4 220 yX1_dig ∈ lw_all := lw_m (List.mem_of_getElem? (i := 274) (by decide +kernel)) rfl
theorem ki_X1_dig : Cond.instanceMethod yX1_dig ∈ lw_all := lw_m (List.mem_of_getElem? (i := 275) (by decide +kernel)) rfl
theorem ks_X1_dig : Cond.selects RX1 yX1_dig yX1_dig ∈ lw_all := lw_m (List.mem_of_getElem? (i := 276) (by decide +kernel)) rfl
theorem kc_X1_dig : Cond.code yX1_dig cX1_dig 6 (some FieldType.int) ∈ lw_all := lw_m (List.mem_of_getElem? (i := 277) (by decide +kernel)) rfl
theorem kmX1_22 : Cond.methodLink RX1 22 Lib.Math.min.name ∈ lw_all := lw_m (List.mem_of_getElem? (i := 278) (by decide +kernel)) rfl
theorem kmX4_224 : Cond.methodLink RX4 224 yX3_take ∈ lw_all := lw_m (List.mem_of_getElem? (i := 279) (by decide +kernel)) rfl
theorem ki_X3_take : Cond.instanceMethod yX3_take ∈ lw_all := lw_m (List.mem_of_getElem? (i := 280) (by decide +kernel)) rfl
theorem ks_X3_take : Cond.selects RX3 yX3_take yX3_take ∈ lw_all := lw_m (List.mem_of_getElem? (i := 281) (by decide +kernel)) rfl
theorem kc_X3_take : Cond.code yX3_take cX3_take 3 (none : Option FieldType) ∈ lw_all := lw_m (List.mem_of_getElem? (i := 282) (by decide +kernel)) rfl
theorem kmX4_203 : Cond.methodLink RX4 203 yX4_tonsWanted ∈ lw_all := lw_m (List.mem_of_getElem? (i := 283) (by decide +kernel)) rfl
theorem ki_X4_tonsWanted : Cond.instanceMethod yX4_tonsWanted ∈ lw_all := lw_m (List.mem_of_getElem? (i := 285) (by decide +kernel)) rfl
theorem kc_X4_tonsWanted : Cond.code yX4_tonsWanted cX4_tonsWanted 3 (some FieldType.int) ∈ lw_all := lw_m (List.mem_of_getElem? (i := 286) (by decide +kernel)) rfl
theorem kmX4_206 : Cond.methodLink RX4 206 yX2_tell ∈ lw_all := lw_m (List.mem_of_getElem? (i := 287) (by decide +kernel)) rfl
theorem ki_X2_tell : Cond.instanceMethod yX2_tell ∈ lw_all := lw_m (List.mem_of_getElem? (i := 288) (by decide +kernel)) rfl
theorem ks_X2_tell : Cond.selects RX2 yX2_tell yX2_tell ∈ lw_all := lw_m (List.mem_of_getElem? (i := 289) (by decide +kernel)) rfl
theorem kc_X2_tell : Cond.code yX2_tell cX2_tell 5 (none : Option FieldType) ∈ lw_all := lw_m (List.mem_of_getElem? (i := 290) (by decide +kernel)) rfl
theorem kmL_40 : Cond.methodLink RL 40 yX4_about ∈ lw_all := lw_m (List.mem_of_getElem? (i := 291) (by decide +kernel)) rfl
theorem ki_X4_about : Cond.instanceMethod yX4_about ∈ lw_all := lw_m (List.mem_of_getElem? (i := 292) (by decide +kernel)) rfl
theorem ks_X4_about : Cond.selects RX4 yX4_about yX4_about ∈ lw_all := lw_m (List.mem_of_getElem? (i := 293) (by decide +kernel)) rfl
theorem kc_X4_about : Cond.code yX4_about cX4_about 4 (some FieldType.int) ∈ lw_all := lw_m (List.mem_of_getElem? (i := 294) (by decide +kernel)) rfl
theorem kmX4_112 : Cond.methodLink RX4 112 yX1_worthOf ∈ lw_all := lw_m (List.mem_of_getElem? (i := 295) (by decide +kernel)) rfl
theorem ki_X1_worthOf : Cond.instanceMethod yX1_worthOf ∈ lw_all := lw_m (List.mem_of_getElem? (i := 296) (by decide +kernel)) rfl
theorem ks_X1_worthOf : Cond.selects RX1 yX1_worthOf yX1_worthOf ∈ lw_all := lw_m (List.mem_of_getElem? (i := 297) (by decide +kernel)) rfl
theorem kc_X1_worthOf : Cond.code yX1_worthOf cX1_worthOf 4 (some FieldType.int) ∈ lw_all := lw_m (List.mem_of_getElem? (i := 298) (by decide +kernel)) rfl
theorem kmL_44 : Cond.methodLink RL 44 yX4_cargo ∈ lw_all := lw_m (List.mem_of_getElem? (i := 299) (by decide +kernel)) rfl
theorem ki_X4_cargo : Cond.instanceMethod yX4_cargo ∈ lw_all := lw_m (List.mem_of_getElem? (i := 300) (by decide +kernel)) rfl
theorem ks_X4_cargo : Cond.selects RX4 yX4_cargo yX4_cargo ∈ lw_all := lw_m (List.mem_of_getElem? (i := 301) (by decide +kernel)) rfl
theorem kc_X4_cargo : Cond.code yX4_cargo cX4_cargo 4 (some FieldType.int) ∈ lw_all := lw_m (List.mem_of_getElem? (i := 302) (by decide +kernel)) rfl
theorem kmL_48 : Cond.methodLink RL 48 yX4_loaded ∈ lw_all := lw_m (List.mem_of_getElem? (i := 303) (by decide +kernel)) rfl
theorem ki_X4_loaded : Cond.instanceMethod yX4_loaded ∈ lw_all := lw_m (List.mem_of_getElem? (i := 304) (by decide +kernel)) rfl
theorem ks_X4_loaded : Cond.selects RX4 yX4_loaded yX4_loaded ∈ lw_all := lw_m (List.mem_of_getElem? (i := 305) (by decide +kernel)) rfl
theorem kc_X4_loaded : Cond.code yX4_loaded cX4_loaded 4 (some FieldType.int) ∈ lw_all := lw_m (List.mem_of_getElem? (i := 306) (by decide +kernel)) rfl
theorem kmL_52 : Cond.methodLink RL 52 yX4_boat ∈ lw_all := lw_m (List.mem_of_getElem? (i := 307) (by decide +kernel)) rfl
theorem ki_X4_boat : Cond.instanceMethod yX4_boat ∈ lw_all := lw_m (List.mem_of_getElem? (i := 308) (by decide +kernel)) rfl
theorem ks_X4_boat : Cond.selects RX4 yX4_boat yX4_boat ∈ lw_all := lw_m (List.mem_of_getElem? (i := 309) (by decide +kernel)) rfl
theorem kc_X4_boat : Cond.code yX4_boat cX4_boat 4 (some FieldType.int) ∈ lw_all := lw_m (List.mem_of_getElem? (i := 310) (by decide +kernel)) rfl
theorem kmL_56 : Cond.methodLink RL 56 yX4_sample ∈ lw_all := lw_m (List.mem_of_getElem? (i := 311) (by decide +kernel)) rfl
theorem ki_X4_sample : Cond.instanceMethod yX4_sample ∈ lw_all := lw_m (List.mem_of_getElem? (i := 312) (by decide +kernel)) rfl
theorem ks_X4_sample : Cond.selects RX4 yX4_sample yX4_sample ∈ lw_all := lw_m (List.mem_of_getElem? (i := 313) (by decide +kernel)) rfl
theorem kc_X4_sample : Cond.code yX4_sample cX4_sample 4 (some FieldType.int) ∈ lw_all := lw_m (List.mem_of_getElem? (i := 314) (by decide +kernel)) rfl
theorem kmX4_128 : Cond.methodLink RX4 128 yX1_sampleOf ∈ lw_all := lw_m (List.mem_of_getElem? (i := 315) (by decide +kernel)) rfl
theorem ki_X1_sampleOf : Cond.instanceMethod yX1_sampleOf ∈ lw_all := lw_m (List.mem_of_getElem? (i := 316) (by decide +kernel)) rfl
theorem ks_X1_sampleOf : Cond.selects RX1 yX1_sampleOf yX1_sampleOf ∈ lw_all := lw_m (List.mem_of_getElem? (i := 317) (by decide +kernel)) rfl
theorem kc_X1_sampleOf : Cond.code yX1_sampleOf cX1_sampleOf 9 (some FieldType.int) ∈ lw_all := lw_m (List.mem_of_getElem? (i := 318) (by decide +kernel)) rfl
theorem kmL_62 : Cond.methodLink RL 62 yX4_type ∈ lw_all := lw_m (List.mem_of_getElem? (i := 319) (by decide +kernel)) rfl
theorem ki_X4_type : Cond.instanceMethod yX4_type ∈ lw_all := lw_m (List.mem_of_getElem? (i := 320) (by decide +kernel)) rfl
theorem ks_X4_type : Cond.selects RX4 yX4_type yX4_type ∈ lw_all := lw_m (List.mem_of_getElem? (i := 321) (by decide +kernel)) rfl
theorem kc_X4_type : Cond.code yX4_type cX4_type 4 (some FieldType.int) ∈ lw_all := lw_m (List.mem_of_getElem? (i := 322) (by decide +kernel)) rfl
theorem kmX4_135 : Cond.methodLink RX4 135 yX0_append ∈ lw_all := lw_m (List.mem_of_getElem? (i := 323) (by decide +kernel)) rfl
theorem ki_X0_append : Cond.instanceMethod yX0_append ∈ lw_all := lw_m (List.mem_of_getElem? (i := 324) (by decide +kernel)) rfl
theorem ks_X0_append : Cond.selects RX0 yX0_append yX0_append ∈ lw_all := lw_m (List.mem_of_getElem? (i := 325) (by decide +kernel)) rfl
theorem kc_X0_append : Cond.code yX0_append cX0_append 5 (none : Option FieldType) ∈ lw_all := lw_m (List.mem_of_getElem? (i := 326) (by decide +kernel)) rfl
theorem kmL_67 : Cond.methodLink RL 67 yX4_clear ∈ lw_all := lw_m (List.mem_of_getElem? (i := 327) (by decide +kernel)) rfl
theorem ki_X4_clear : Cond.instanceMethod yX4_clear ∈ lw_all := lw_m (List.mem_of_getElem? (i := 328) (by decide +kernel)) rfl
theorem ks_X4_clear : Cond.selects RX4 yX4_clear yX4_clear ∈ lw_all := lw_m (List.mem_of_getElem? (i := 329) (by decide +kernel)) rfl
theorem kc_X4_clear : Cond.code yX4_clear cX4_clear 2 (some FieldType.int) ∈ lw_all := lw_m (List.mem_of_getElem? (i := 330) (by decide +kernel)) rfl
theorem kmL_72 : Cond.methodLink RL 72 yX4_charter ∈ lw_all := lw_m (List.mem_of_getElem? (i := 331) (by decide +kernel)) rfl
theorem ki_X4_charter : Cond.instanceMethod yX4_charter ∈ lw_all := lw_m (List.mem_of_getElem? (i := 332) (by decide +kernel)) rfl
theorem ks_X4_charter : Cond.selects RX4 yX4_charter yX4_charter ∈ lw_all := lw_m (List.mem_of_getElem? (i := 333) (by decide +kernel)) rfl
theorem kc_X4_charter : Cond.code yX4_charter cX4_charter 4 (some FieldType.int) ∈ lw_all := lw_m (List.mem_of_getElem? (i := 334) (by decide +kernel)) rfl
theorem kmX4_139 : Cond.methodLink RX4 139 yX0_read ∈ lw_all := lw_m (List.mem_of_getElem? (i := 335) (by decide +kernel)) rfl
theorem ki_X0_read : Cond.instanceMethod yX0_read ∈ lw_all := lw_m (List.mem_of_getElem? (i := 336) (by decide +kernel)) rfl
theorem ks_X0_read : Cond.selects RX0 yX0_read yX0_read ∈ lw_all := lw_m (List.mem_of_getElem? (i := 337) (by decide +kernel)) rfl
theorem kc_X0_read : Cond.code yX0_read cX0_read 5 (some FieldType.int) ∈ lw_all := lw_m (List.mem_of_getElem? (i := 338) (by decide +kernel)) rfl
theorem kmX0_22 : Cond.methodLink RX0 22 yX0_takesNumber ∈ lw_all := lw_m (List.mem_of_getElem? (i := 339) (by decide +kernel)) rfl
theorem kt_X0_takesNumber : Cond.static yX0_takesNumber ∈ lw_all := lw_m (List.mem_of_getElem? (i := 340) (by decide +kernel)) rfl
theorem kc_X0_takesNumber : Cond.code yX0_takesNumber cX0_takesNumber 1 (some FieldType.boolean) ∈ lw_all := lw_m (List.mem_of_getElem? (i := 341) (by decide +kernel)) rfl
theorem kmX0_26 : Cond.methodLink RX0 26 yX0_addDigit ∈ lw_all := lw_m (List.mem_of_getElem? (i := 342) (by decide +kernel)) rfl
theorem ki_X0_addDigit : Cond.instanceMethod yX0_addDigit ∈ lw_all := lw_m (List.mem_of_getElem? (i := 344) (by decide +kernel)) rfl
theorem kc_X0_addDigit : Cond.code yX0_addDigit cX0_addDigit 3 (some FieldType.boolean) ∈ lw_all := lw_m (List.mem_of_getElem? (i := 345) (by decide +kernel)) rfl
theorem kmX0_30 : Cond.methodLink RX0 30 yX0_termOf ∈ lw_all := lw_m (List.mem_of_getElem? (i := 346) (by decide +kernel)) rfl
theorem kt_X0_termOf : Cond.static yX0_termOf ∈ lw_all := lw_m (List.mem_of_getElem? (i := 347) (by decide +kernel)) rfl
theorem kc_X0_termOf : Cond.code yX0_termOf cX0_termOf 1 (some FieldType.int) ∈ lw_all := lw_m (List.mem_of_getElem? (i := 348) (by decide +kernel)) rfl
theorem kmX4_147 : Cond.methodLink RX4 147 arraycopyName ∈ lw_all := lw_m (List.mem_of_getElem? (i := 349) (by decide +kernel)) rfl
theorem kt_Sys_arraycopy : Cond.static arraycopyName ∈ lw_all := lw_m (List.mem_of_getElem? (i := 350) (by decide +kernel)) rfl
theorem kv_Sys_arraycopy : Cond.native arraycopyName ∈ lw_all := lw_m (List.mem_of_getElem? (i := 351) (by decide +kernel)) rfl
theorem kmL_76 : Cond.methodLink RL 76 yX4_term ∈ lw_all := lw_m (List.mem_of_getElem? (i := 352) (by decide +kernel)) rfl
theorem ki_X4_term : Cond.instanceMethod yX4_term ∈ lw_all := lw_m (List.mem_of_getElem? (i := 353) (by decide +kernel)) rfl
theorem ks_X4_term : Cond.selects RX4 yX4_term yX4_term ∈ lw_all := lw_m (List.mem_of_getElem? (i := 354) (by decide +kernel)) rfl
theorem kc_X4_term : Cond.code yX4_term cX4_term 4 (some FieldType.int) ∈ lw_all := lw_m (List.mem_of_getElem? (i := 355) (by decide +kernel)) rfl
theorem kmL_80 : Cond.methodLink RL 80 yX4_owed ∈ lw_all := lw_m (List.mem_of_getElem? (i := 356) (by decide +kernel)) rfl
theorem ki_X4_owed : Cond.instanceMethod yX4_owed ∈ lw_all := lw_m (List.mem_of_getElem? (i := 357) (by decide +kernel)) rfl
theorem ks_X4_owed : Cond.selects RX4 yX4_owed yX4_owed ∈ lw_all := lw_m (List.mem_of_getElem? (i := 358) (by decide +kernel)) rfl
theorem kc_X4_owed : Cond.code yX4_owed cX4_owed 4 (some FieldType.int) ∈ lw_all := lw_m (List.mem_of_getElem? (i := 359) (by decide +kernel)) rfl
theorem kkX4_153 : Cond.constant RX4 153 (-1000000) ∈ lw_all := lw_m (List.mem_of_getElem? (i := 360) (by decide +kernel)) rfl
theorem kmX4_154 : Cond.methodLink RX4 154 yX4_usedBy ∈ lw_all := lw_m (List.mem_of_getElem? (i := 361) (by decide +kernel)) rfl
theorem ki_X4_usedBy : Cond.instanceMethod yX4_usedBy ∈ lw_all := lw_m (List.mem_of_getElem? (i := 363) (by decide +kernel)) rfl
theorem kc_X4_usedBy : Cond.code yX4_usedBy cX4_usedBy 4 (some FieldType.int) ∈ lw_all := lw_m (List.mem_of_getElem? (i := 364) (by decide +kernel)) rfl
theorem kmX4_161 : Cond.methodLink RX4 161 yX4_lastDayOf ∈ lw_all := lw_m (List.mem_of_getElem? (i := 365) (by decide +kernel)) rfl
theorem ki_X4_lastDayOf : Cond.instanceMethod yX4_lastDayOf ∈ lw_all := lw_m (List.mem_of_getElem? (i := 367) (by decide +kernel)) rfl
theorem kc_X4_lastDayOf : Cond.code yX4_lastDayOf cX4_lastDayOf 2 (some FieldType.int) ∈ lw_all := lw_m (List.mem_of_getElem? (i := 368) (by decide +kernel)) rfl
theorem kmX4_164 : Cond.methodLink RX4 164 yX4_counts ∈ lw_all := lw_m (List.mem_of_getElem? (i := 369) (by decide +kernel)) rfl
theorem ki_X4_counts : Cond.instanceMethod yX4_counts ∈ lw_all := lw_m (List.mem_of_getElem? (i := 371) (by decide +kernel)) rfl
theorem kc_X4_counts : Cond.code yX4_counts cX4_counts 3 (some FieldType.boolean) ∈ lw_all := lw_m (List.mem_of_getElem? (i := 372) (by decide +kernel)) rfl
theorem kmX4_234 : Cond.methodLink RX4 234 yX3_agreed ∈ lw_all := lw_m (List.mem_of_getElem? (i := 373) (by decide +kernel)) rfl
theorem ki_X3_agreed : Cond.instanceMethod yX3_agreed ∈ lw_all := lw_m (List.mem_of_getElem? (i := 374) (by decide +kernel)) rfl
theorem ks_X3_agreed : Cond.selects RX3 yX3_agreed yX3_agreed ∈ lw_all := lw_m (List.mem_of_getElem? (i := 375) (by decide +kernel)) rfl
theorem kc_X3_agreed : Cond.code yX3_agreed cX3_agreed 2 (some FieldType.boolean) ∈ lw_all := lw_m (List.mem_of_getElem? (i := 376) (by decide +kernel)) rfl
theorem kmX4_158 : Cond.methodLink RX4 158 yX4_owedBy ∈ lw_all := lw_m (List.mem_of_getElem? (i := 377) (by decide +kernel)) rfl
theorem ki_X4_owedBy : Cond.instanceMethod yX4_owedBy ∈ lw_all := lw_m (List.mem_of_getElem? (i := 379) (by decide +kernel)) rfl
theorem kc_X4_owedBy : Cond.code yX4_owedBy cX4_owedBy 3 (some FieldType.int) ∈ lw_all := lw_m (List.mem_of_getElem? (i := 380) (by decide +kernel)) rfl
theorem kmL_84 : Cond.methodLink RL 84 yX4_shared ∈ lw_all := lw_m (List.mem_of_getElem? (i := 381) (by decide +kernel)) rfl
theorem ki_X4_shared : Cond.instanceMethod yX4_shared ∈ lw_all := lw_m (List.mem_of_getElem? (i := 382) (by decide +kernel)) rfl
theorem ks_X4_shared : Cond.selects RX4 yX4_shared yX4_shared ∈ lw_all := lw_m (List.mem_of_getElem? (i := 383) (by decide +kernel)) rfl
theorem kc_X4_shared : Cond.code yX4_shared cX4_shared 7 (some FieldType.int) ∈ lw_all := lw_m (List.mem_of_getElem? (i := 384) (by decide +kernel)) rfl
theorem kmX4_168 : Cond.methodLink RX4 168 yX4_shareOf ∈ lw_all := lw_m (List.mem_of_getElem? (i := 385) (by decide +kernel)) rfl
theorem ki_X4_shareOf : Cond.instanceMethod yX4_shareOf ∈ lw_all := lw_m (List.mem_of_getElem? (i := 387) (by decide +kernel)) rfl
theorem kc_X4_shareOf : Cond.code yX4_shareOf cX4_shareOf 3 (some FieldType.int) ∈ lw_all := lw_m (List.mem_of_getElem? (i := 388) (by decide +kernel)) rfl
theorem kmL_88 : Cond.methodLink RL 88 yX4_delay ∈ lw_all := lw_m (List.mem_of_getElem? (i := 389) (by decide +kernel)) rfl
theorem ki_X4_delay : Cond.instanceMethod yX4_delay ∈ lw_all := lw_m (List.mem_of_getElem? (i := 390) (by decide +kernel)) rfl
theorem ks_X4_delay : Cond.selects RX4 yX4_delay yX4_delay ∈ lw_all := lw_m (List.mem_of_getElem? (i := 391) (by decide +kernel)) rfl
theorem kc_X4_delay : Cond.code yX4_delay cX4_delay 3 (some FieldType.int) ∈ lw_all := lw_m (List.mem_of_getElem? (i := 392) (by decide +kernel)) rfl
theorem kmL_92 : Cond.methodLink RL 92 yX4_letter ∈ lw_all := lw_m (List.mem_of_getElem? (i := 393) (by decide +kernel)) rfl
theorem ki_X4_letter : Cond.instanceMethod yX4_letter ∈ lw_all := lw_m (List.mem_of_getElem? (i := 394) (by decide +kernel)) rfl
theorem ks_X4_letter : Cond.selects RX4 yX4_letter yX4_letter ∈ lw_all := lw_m (List.mem_of_getElem? (i := 395) (by decide +kernel)) rfl
theorem kc_X4_letter : Cond.code yX4_letter cX4_letter 3 (some FieldType.int) ∈ lw_all := lw_m (List.mem_of_getElem? (i := 396) (by decide +kernel)) rfl
theorem kmL_96 : Cond.methodLink RL 96 yX4_foretold ∈ lw_all := lw_m (List.mem_of_getElem? (i := 397) (by decide +kernel)) rfl
theorem ki_X4_foretold : Cond.instanceMethod yX4_foretold ∈ lw_all := lw_m (List.mem_of_getElem? (i := 398) (by decide +kernel)) rfl
theorem ks_X4_foretold : Cond.selects RX4 yX4_foretold yX4_foretold ∈ lw_all := lw_m (List.mem_of_getElem? (i := 399) (by decide +kernel)) rfl
theorem kc_X4_foretold : Cond.code yX4_foretold cX4_foretold 1 (some FieldType.int) ∈ lw_all := lw_m (List.mem_of_getElem? (i := 400) (by decide +kernel)) rfl
theorem kmX4_181 : Cond.methodLink RX4 181 yX2_foretell ∈ lw_all := lw_m (List.mem_of_getElem? (i := 401) (by decide +kernel)) rfl
theorem ki_X2_foretell : Cond.instanceMethod yX2_foretell ∈ lw_all := lw_m (List.mem_of_getElem? (i := 402) (by decide +kernel)) rfl
theorem ks_X2_foretell : Cond.selects RX2 yX2_foretell yX2_foretell ∈ lw_all := lw_m (List.mem_of_getElem? (i := 403) (by decide +kernel)) rfl
theorem kc_X2_foretell : Cond.code yX2_foretell cX2_foretell 5 (some FieldType.int) ∈ lw_all := lw_m (List.mem_of_getElem? (i := 404) (by decide +kernel)) rfl
theorem kmX2_21 : Cond.methodLink RX2 21 yX2_latestCome ∈ lw_all := lw_m (List.mem_of_getElem? (i := 405) (by decide +kernel)) rfl
theorem ki_X2_latestCome : Cond.instanceMethod yX2_latestCome ∈ lw_all := lw_m (List.mem_of_getElem? (i := 407) (by decide +kernel)) rfl
theorem kc_X2_latestCome : Cond.code yX2_latestCome cX2_latestCome 3 (some FieldType.int) ∈ lw_all := lw_m (List.mem_of_getElem? (i := 408) (by decide +kernel)) rfl
theorem kmX2_25 : Cond.methodLink RX2 25 Lib.Math.max.name ∈ lw_all := lw_m (List.mem_of_getElem? (i := 409) (by decide +kernel)) rfl
theorem kmX2_31 : Cond.methodLink RX2 31 yX2_dugFrom ∈ lw_all := lw_m (List.mem_of_getElem? (i := 410) (by decide +kernel)) rfl
theorem ki_X2_dugFrom : Cond.instanceMethod yX2_dugFrom ∈ lw_all := lw_m (List.mem_of_getElem? (i := 411) (by decide +kernel)) rfl
theorem ks_X2_dugFrom : Cond.selects RX2 yX2_dugFrom yX2_dugFrom ∈ lw_all := lw_m (List.mem_of_getElem? (i := 412) (by decide +kernel)) rfl
theorem kc_X2_dugFrom : Cond.code yX2_dugFrom cX2_dugFrom 5 (some FieldType.int) ∈ lw_all := lw_m (List.mem_of_getElem? (i := 413) (by decide +kernel)) rfl
theorem kmL_100 : Cond.methodLink RL 100 yX4_count ∈ lw_all := lw_m (List.mem_of_getElem? (i := 414) (by decide +kernel)) rfl
theorem ki_X4_count : Cond.instanceMethod yX4_count ∈ lw_all := lw_m (List.mem_of_getElem? (i := 415) (by decide +kernel)) rfl
theorem ks_X4_count : Cond.selects RX4 yX4_count yX4_count ∈ lw_all := lw_m (List.mem_of_getElem? (i := 416) (by decide +kernel)) rfl
theorem kc_X4_count : Cond.code yX4_count cX4_count 2 (some FieldType.int) ∈ lw_all := lw_m (List.mem_of_getElem? (i := 417) (by decide +kernel)) rfl
theorem kmX4_184 : Cond.methodLink RX4 184 yX4_loadedShips ∈ lw_all := lw_m (List.mem_of_getElem? (i := 418) (by decide +kernel)) rfl
theorem ki_X4_loadedShips : Cond.instanceMethod yX4_loadedShips ∈ lw_all := lw_m (List.mem_of_getElem? (i := 420) (by decide +kernel)) rfl
theorem kc_X4_loadedShips : Cond.code yX4_loadedShips cX4_loadedShips 3 (some FieldType.int) ∈ lw_all := lw_m (List.mem_of_getElem? (i := 421) (by decide +kernel)) rfl
theorem kmX4_187 : Cond.methodLink RX4 187 yX2_dugFrom ∈ lw_all := lw_m (List.mem_of_getElem? (i := 422) (by decide +kernel)) rfl
theorem kmX4_190 : Cond.methodLink RX4 190 yX4_dryShips ∈ lw_all := lw_m (List.mem_of_getElem? (i := 423) (by decide +kernel)) rfl
theorem ki_X4_dryShips : Cond.instanceMethod yX4_dryShips ∈ lw_all := lw_m (List.mem_of_getElem? (i := 425) (by decide +kernel)) rfl
theorem kc_X4_dryShips : Cond.code yX4_dryShips cX4_dryShips 3 (some FieldType.int) ∈ lw_all := lw_m (List.mem_of_getElem? (i := 426) (by decide +kernel)) rfl
theorem kmL_104 : Cond.methodLink RL 104 yX4_trace ∈ lw_all := lw_m (List.mem_of_getElem? (i := 427) (by decide +kernel)) rfl
theorem ki_X4_trace : Cond.instanceMethod yX4_trace ∈ lw_all := lw_m (List.mem_of_getElem? (i := 428) (by decide +kernel)) rfl
theorem ks_X4_trace : Cond.selects RX4 yX4_trace yX4_trace ∈ lw_all := lw_m (List.mem_of_getElem? (i := 429) (by decide +kernel)) rfl
theorem kc_X4_trace : Cond.code yX4_trace cX4_trace 1 (some FieldType.long) ∈ lw_all := lw_m (List.mem_of_getElem? (i := 430) (by decide +kernel)) rfl
theorem klL_10 : Cond.classLink RL 10 RX5 ∈ lw_all := lw_m (List.mem_of_getElem? (i := 431) (by decide +kernel)) rfl
theorem kq_X5 : Cond.instantiable RX5 25 ∈ lw_all := lw_m (List.mem_of_getElem? (i := 432) (by decide +kernel)) rfl
theorem kmL_12 : Cond.methodLink RL 12 yX5_init ∈ lw_all := lw_m (List.mem_of_getElem? (i := 433) (by decide +kernel)) rfl
theorem ki_X5_init : Cond.instanceMethod yX5_init ∈ lw_all := lw_m (List.mem_of_getElem? (i := 434) (by decide +kernel)) rfl
theorem kc_X5_init : Cond.code yX5_init cX5_init 1 (none : Option FieldType) ∈ lw_all := lw_m (List.mem_of_getElem? (i := 435) (by decide +kernel)) rfl
theorem kmX5_1 : Cond.methodLink RX5 1 objectInit ∈ lw_all := lw_m (List.mem_of_getElem? (i := 436) (by decide +kernel)) rfl
theorem kfX5_66 : Cond.fieldLink RX5 66 "RockRoadModel" "thrown" "I" ∈ lw_all := lw_m (List.mem_of_getElem? (i := 437) (by decide +kernel)) rfl
theorem kfX5_86 : Cond.fieldLink RX5 86 "RockRoadModel" "trace" "J" ∈ lw_all := lw_m (List.mem_of_getElem? (i := 438) (by decide +kernel)) rfl
theorem kfX5_76 : Cond.fieldLink RX5 76 "RockRoadModel" "today" "I" ∈ lw_all := lw_m (List.mem_of_getElem? (i := 439) (by decide +kernel)) rfl
theorem kfX5_7 : Cond.fieldLink RX5 7 "RockRoadModel" "swell" "[I" ∈ lw_all := lw_m (List.mem_of_getElem? (i := 440) (by decide +kernel)) rfl
theorem kfX5_73 : Cond.fieldLink RX5 73 "RockRoadModel" "layers" "I" ∈ lw_all := lw_m (List.mem_of_getElem? (i := 441) (by decide +kernel)) rfl
theorem kfX5_13 : Cond.fieldLink RX5 13 "RockRoadModel" "tons" "[I" ∈ lw_all := lw_m (List.mem_of_getElem? (i := 442) (by decide +kernel)) rfl
theorem kfX5_16 : Cond.fieldLink RX5 16 "RockRoadModel" "worth" "[I" ∈ lw_all := lw_m (List.mem_of_getElem? (i := 443) (by decide +kernel)) rfl
theorem kfX5_79 : Cond.fieldLink RX5 79 "RockRoadModel" "ships" "I" ∈ lw_all := lw_m (List.mem_of_getElem? (i := 444) (by decide +kernel)) rfl
theorem kfX5_19 : Cond.fieldLink RX5 19 "RockRoadModel" "kind" "[I" ∈ lw_all := lw_m (List.mem_of_getElem? (i := 445) (by decide +kernel)) rfl
theorem kfX5_22 : Cond.fieldLink RX5 22 "RockRoadModel" "came" "[I" ∈ lw_all := lw_m (List.mem_of_getElem? (i := 446) (by decide +kernel)) rfl
theorem kfX5_25 : Cond.fieldLink RX5 25 "RockRoadModel" "wants" "[I" ∈ lw_all := lw_m (List.mem_of_getElem? (i := 447) (by decide +kernel)) rfl
theorem kfX5_28 : Cond.fieldLink RX5 28 "RockRoadModel" "water" "[I" ∈ lw_all := lw_m (List.mem_of_getElem? (i := 448) (by decide +kernel)) rfl
theorem kfX5_31 : Cond.fieldLink RX5 31 "RockRoadModel" "done" "[I" ∈ lw_all := lw_m (List.mem_of_getElem? (i := 449) (by decide +kernel)) rfl
theorem kfX5_34 : Cond.fieldLink RX5 34 "RockRoadModel" "cargo" "[I" ∈ lw_all := lw_m (List.mem_of_getElem? (i := 450) (by decide +kernel)) rfl
theorem kfX5_37 : Cond.fieldLink RX5 37 "RockRoadModel" "took" "[I" ∈ lw_all := lw_m (List.mem_of_getElem? (i := 451) (by decide +kernel)) rfl
theorem kfX5_40 : Cond.fieldLink RX5 40 "RockRoadModel" "queue" "[I" ∈ lw_all := lw_m (List.mem_of_getElem? (i := 452) (by decide +kernel)) rfl
theorem kfX5_43 : Cond.fieldLink RX5 43 "RockRoadModel" "dug" "[I" ∈ lw_all := lw_m (List.mem_of_getElem? (i := 453) (by decide +kernel)) rfl
theorem kfX5_46 : Cond.fieldLink RX5 46 "RockRoadModel" "comes" "[I" ∈ lw_all := lw_m (List.mem_of_getElem? (i := 454) (by decide +kernel)) rfl
theorem kfX5_49 : Cond.fieldLink RX5 49 "RockRoadModel" "delay" "I" ∈ lw_all := lw_m (List.mem_of_getElem? (i := 455) (by decide +kernel)) rfl
theorem kfX5_105 : Cond.fieldLink RX5 105 "RockRoadModel" "dugEver" "I" ∈ lw_all := lw_m (List.mem_of_getElem? (i := 456) (by decide +kernel)) rfl
theorem kfX5_53 : Cond.fieldLink RX5 53 "RockRoadModel" "draft" "[I" ∈ lw_all := lw_m (List.mem_of_getElem? (i := 457) (by decide +kernel)) rfl
theorem kfX5_117 : Cond.fieldLink RX5 117 "RockRoadModel" "drafted" "I" ∈ lw_all := lw_m (List.mem_of_getElem? (i := 458) (by decide +kernel)) rfl
theorem kfX5_56 : Cond.fieldLink RX5 56 "RockRoadModel" "terms" "[I" ∈ lw_all := lw_m (List.mem_of_getElem? (i := 459) (by decide +kernel)) rfl
theorem kfX5_59 : Cond.fieldLink RX5 59 "RockRoadModel" "read" "[I" ∈ lw_all := lw_m (List.mem_of_getElem? (i := 460) (by decide +kernel)) rfl
theorem kfX5_62 : Cond.fieldLink RX5 62 "RockRoadModel" "isMet" "[Z" ∈ lw_all := lw_m (List.mem_of_getElem? (i := 461) (by decide +kernel)) rfl
theorem ka_boolean : Cond.arrayClass .boolean ∈ lw_all := lw_m (List.mem_of_getElem? (i := 513) (by decide +kernel)) rfl
theorem kmL_17 : Cond.methodLink RL 17 yX5_layer ∈ lw_all := lw_m (List.mem_of_getElem? (i := 514) (by decide +kernel)) rfl
theorem ki_X5_layer : Cond.instanceMethod yX5_layer ∈ lw_all := lw_m (List.mem_of_getElem? (i := 515) (by decide +kernel)) rfl
theorem ks_X5_layer : Cond.selects RX5 yX5_layer yX5_layer ∈ lw_all := lw_m (List.mem_of_getElem? (i := 516) (by decide +kernel)) rfl
theorem kc_X5_layer : Cond.code yX5_layer cX5_layer 3 (some FieldType.int) ∈ lw_all := lw_m (List.mem_of_getElem? (i := 517) (by decide +kernel)) rfl
theorem kmX5_69 : Cond.methodLink RX5 69 yX5_in ∈ lw_all := lw_m (List.mem_of_getElem? (i := 518) (by decide +kernel)) rfl
theorem kt_X5_in : Cond.static yX5_in ∈ lw_all := lw_m (List.mem_of_getElem? (i := 519) (by decide +kernel)) rfl
theorem kc_X5_in : Cond.code yX5_in cX5_in 3 (some FieldType.boolean) ∈ lw_all := lw_m (List.mem_of_getElem? (i := 520) (by decide +kernel)) rfl
theorem kmL_22 : Cond.methodLink RL 22 yX5_left ∈ lw_all := lw_m (List.mem_of_getElem? (i := 521) (by decide +kernel)) rfl
theorem ki_X5_left : Cond.instanceMethod yX5_left ∈ lw_all := lw_m (List.mem_of_getElem? (i := 522) (by decide +kernel)) rfl
theorem ks_X5_left : Cond.selects RX5 yX5_left yX5_left ∈ lw_all := lw_m (List.mem_of_getElem? (i := 523) (by decide +kernel)) rfl
theorem kc_X5_left : Cond.code yX5_left cX5_left 2 (some FieldType.int) ∈ lw_all := lw_m (List.mem_of_getElem? (i := 524) (by decide +kernel)) rfl
theorem kmL_26 : Cond.methodLink RL 26 yX5_swell ∈ lw_all := lw_m (List.mem_of_getElem? (i := 525) (by decide +kernel)) rfl
theorem ki_X5_swell : Cond.instanceMethod yX5_swell ∈ lw_all := lw_m (List.mem_of_getElem? (i := 526) (by decide +kernel)) rfl
theorem ks_X5_swell : Cond.selects RX5 yX5_swell yX5_swell ∈ lw_all := lw_m (List.mem_of_getElem? (i := 527) (by decide +kernel)) rfl
theorem kc_X5_swell : Cond.code yX5_swell cX5_swell 4 (some FieldType.int) ∈ lw_all := lw_m (List.mem_of_getElem? (i := 528) (by decide +kernel)) rfl
theorem kmL_31 : Cond.methodLink RL 31 yX5_ship ∈ lw_all := lw_m (List.mem_of_getElem? (i := 529) (by decide +kernel)) rfl
theorem ki_X5_ship : Cond.instanceMethod yX5_ship ∈ lw_all := lw_m (List.mem_of_getElem? (i := 530) (by decide +kernel)) rfl
theorem ks_X5_ship : Cond.selects RX5 yX5_ship yX5_ship ∈ lw_all := lw_m (List.mem_of_getElem? (i := 531) (by decide +kernel)) rfl
theorem kc_X5_ship : Cond.code yX5_ship cX5_ship 4 (some FieldType.int) ∈ lw_all := lw_m (List.mem_of_getElem? (i := 532) (by decide +kernel)) rfl
theorem kmL_35 : Cond.methodLink RL 35 yX5_turn ∈ lw_all := lw_m (List.mem_of_getElem? (i := 533) (by decide +kernel)) rfl
theorem ki_X5_turn : Cond.instanceMethod yX5_turn ∈ lw_all := lw_m (List.mem_of_getElem? (i := 534) (by decide +kernel)) rfl
theorem ks_X5_turn : Cond.selects RX5 yX5_turn yX5_turn ∈ lw_all := lw_m (List.mem_of_getElem? (i := 535) (by decide +kernel)) rfl
theorem kc_X5_turn : Cond.code yX5_turn cX5_turn 2 (some FieldType.int) ∈ lw_all := lw_m (List.mem_of_getElem? (i := 536) (by decide +kernel)) rfl
theorem kmX5_82 : Cond.methodLink RX5 82 yX5_isShip ∈ lw_all := lw_m (List.mem_of_getElem? (i := 537) (by decide +kernel)) rfl
theorem ki_X5_isShip : Cond.instanceMethod yX5_isShip ∈ lw_all := lw_m (List.mem_of_getElem? (i := 539) (by decide +kernel)) rfl
theorem kc_X5_isShip : Cond.code yX5_isShip cX5_isShip 2 (some FieldType.boolean) ∈ lw_all := lw_m (List.mem_of_getElem? (i := 540) (by decide +kernel)) rfl
theorem kkX5_90 : Cond.constantLong RX5 90 (11) ∈ lw_all := lw_m (List.mem_of_getElem? (i := 541) (by decide +kernel)) rfl
theorem kkX5_92 : Cond.constantLong RX5 92 (111) ∈ lw_all := lw_m (List.mem_of_getElem? (i := 542) (by decide +kernel)) rfl
theorem kmX5_94 : Cond.methodLink RX5 94 yX5_turnOf ∈ lw_all := lw_m (List.mem_of_getElem? (i := 543) (by decide +kernel)) rfl
theorem ki_X5_turnOf : Cond.instanceMethod yX5_turnOf ∈ lw_all := lw_m (List.mem_of_getElem? (i := 545) (by decide +kernel)) rfl
theorem kc_X5_turnOf : Cond.code yX5_turnOf cX5_turnOf 3 (some FieldType.int) ∈ lw_all := lw_m (List.mem_of_getElem? (i := 546) (by decide +kernel)) rfl
theorem kmL_39 : Cond.methodLink RL 39 yX5_days ∈ lw_all := lw_m (List.mem_of_getElem? (i := 547) (by decide +kernel)) rfl
theorem ki_X5_days : Cond.instanceMethod yX5_days ∈ lw_all := lw_m (List.mem_of_getElem? (i := 548) (by decide +kernel)) rfl
theorem ks_X5_days : Cond.selects RX5 yX5_days yX5_days ∈ lw_all := lw_m (List.mem_of_getElem? (i := 549) (by decide +kernel)) rfl
theorem kc_X5_days : Cond.code yX5_days cX5_days 3 (some FieldType.int) ∈ lw_all := lw_m (List.mem_of_getElem? (i := 550) (by decide +kernel)) rfl
theorem kmX5_108 : Cond.methodLink RX5 108 yX5_goes ∈ lw_all := lw_m (List.mem_of_getElem? (i := 551) (by decide +kernel)) rfl
theorem ki_X5_goes : Cond.instanceMethod yX5_goes ∈ lw_all := lw_m (List.mem_of_getElem? (i := 553) (by decide +kernel)) rfl
theorem kc_X5_goes : Cond.code yX5_goes cX5_goes 8 (none : Option FieldType) ∈ lw_all := lw_m (List.mem_of_getElem? (i := 554) (by decide +kernel)) rfl
theorem kmX5_98 : Cond.methodLink RX5 98 yX5_isLoaded ∈ lw_all := lw_m (List.mem_of_getElem? (i := 555) (by decide +kernel)) rfl
theorem ki_X5_isLoaded : Cond.instanceMethod yX5_isLoaded ∈ lw_all := lw_m (List.mem_of_getElem? (i := 557) (by decide +kernel)) rfl
theorem kc_X5_isLoaded : Cond.code yX5_isLoaded cX5_isLoaded 2 (some FieldType.boolean) ∈ lw_all := lw_m (List.mem_of_getElem? (i := 558) (by decide +kernel)) rfl
theorem kmX5_101 : Cond.methodLink RX5 101 yX5_loads ∈ lw_all := lw_m (List.mem_of_getElem? (i := 559) (by decide +kernel)) rfl
theorem ki_X5_loads : Cond.instanceMethod yX5_loads ∈ lw_all := lw_m (List.mem_of_getElem? (i := 561) (by decide +kernel)) rfl
theorem kc_X5_loads : Cond.code yX5_loads cX5_loads 6 (some FieldType.int) ∈ lw_all := lw_m (List.mem_of_getElem? (i := 562) (by decide +kernel)) rfl
theorem kmL_43 : Cond.methodLink RL 43 yX5_about ∈ lw_all := lw_m (List.mem_of_getElem? (i := 563) (by decide +kernel)) rfl
theorem ki_X5_about : Cond.instanceMethod yX5_about ∈ lw_all := lw_m (List.mem_of_getElem? (i := 564) (by decide +kernel)) rfl
theorem ks_X5_about : Cond.selects RX5 yX5_about yX5_about ∈ lw_all := lw_m (List.mem_of_getElem? (i := 565) (by decide +kernel)) rfl
theorem kc_X5_about : Cond.code yX5_about cX5_about 3 (some FieldType.int) ∈ lw_all := lw_m (List.mem_of_getElem? (i := 566) (by decide +kernel)) rfl
theorem kmX5_111 : Cond.methodLink RX5 111 yX5_tonsOf ∈ lw_all := lw_m (List.mem_of_getElem? (i := 567) (by decide +kernel)) rfl
theorem ki_X5_tonsOf : Cond.instanceMethod yX5_tonsOf ∈ lw_all := lw_m (List.mem_of_getElem? (i := 569) (by decide +kernel)) rfl
theorem kc_X5_tonsOf : Cond.code yX5_tonsOf cX5_tonsOf 4 (some FieldType.int) ∈ lw_all := lw_m (List.mem_of_getElem? (i := 570) (by decide +kernel)) rfl
theorem kmX5_114 : Cond.methodLink RX5 114 yX5_worthOf ∈ lw_all := lw_m (List.mem_of_getElem? (i := 571) (by decide +kernel)) rfl
theorem ki_X5_worthOf : Cond.instanceMethod yX5_worthOf ∈ lw_all := lw_m (List.mem_of_getElem? (i := 573) (by decide +kernel)) rfl
theorem kc_X5_worthOf : Cond.code yX5_worthOf cX5_worthOf 4 (some FieldType.int) ∈ lw_all := lw_m (List.mem_of_getElem? (i := 574) (by decide +kernel)) rfl
theorem kmL_47 : Cond.methodLink RL 47 yX5_cargo ∈ lw_all := lw_m (List.mem_of_getElem? (i := 575) (by decide +kernel)) rfl
theorem ki_X5_cargo : Cond.instanceMethod yX5_cargo ∈ lw_all := lw_m (List.mem_of_getElem? (i := 576) (by decide +kernel)) rfl
theorem ks_X5_cargo : Cond.selects RX5 yX5_cargo yX5_cargo ∈ lw_all := lw_m (List.mem_of_getElem? (i := 577) (by decide +kernel)) rfl
theorem kc_X5_cargo : Cond.code yX5_cargo cX5_cargo 3 (some FieldType.int) ∈ lw_all := lw_m (List.mem_of_getElem? (i := 578) (by decide +kernel)) rfl
theorem kmL_51 : Cond.methodLink RL 51 yX5_loaded ∈ lw_all := lw_m (List.mem_of_getElem? (i := 579) (by decide +kernel)) rfl
theorem ki_X5_loaded : Cond.instanceMethod yX5_loaded ∈ lw_all := lw_m (List.mem_of_getElem? (i := 580) (by decide +kernel)) rfl
theorem ks_X5_loaded : Cond.selects RX5 yX5_loaded yX5_loaded ∈ lw_all := lw_m (List.mem_of_getElem? (i := 581) (by decide +kernel)) rfl
theorem kc_X5_loaded : Cond.code yX5_loaded cX5_loaded 3 (some FieldType.int) ∈ lw_all := lw_m (List.mem_of_getElem? (i := 582) (by decide +kernel)) rfl
theorem kmL_55 : Cond.methodLink RL 55 yX5_boat ∈ lw_all := lw_m (List.mem_of_getElem? (i := 583) (by decide +kernel)) rfl
theorem ki_X5_boat : Cond.instanceMethod yX5_boat ∈ lw_all := lw_m (List.mem_of_getElem? (i := 584) (by decide +kernel)) rfl
theorem ks_X5_boat : Cond.selects RX5 yX5_boat yX5_boat ∈ lw_all := lw_m (List.mem_of_getElem? (i := 585) (by decide +kernel)) rfl
theorem kc_X5_boat : Cond.code yX5_boat cX5_boat 3 (some FieldType.int) ∈ lw_all := lw_m (List.mem_of_getElem? (i := 586) (by decide +kernel)) rfl
theorem kmL_59 : Cond.methodLink RL 59 yX5_sample ∈ lw_all := lw_m (List.mem_of_getElem? (i := 587) (by decide +kernel)) rfl
theorem ki_X5_sample : Cond.instanceMethod yX5_sample ∈ lw_all := lw_m (List.mem_of_getElem? (i := 588) (by decide +kernel)) rfl
theorem ks_X5_sample : Cond.selects RX5 yX5_sample yX5_sample ∈ lw_all := lw_m (List.mem_of_getElem? (i := 589) (by decide +kernel)) rfl
theorem kc_X5_sample : Cond.code yX5_sample cX5_sample 8 (some FieldType.int) ∈ lw_all := lw_m (List.mem_of_getElem? (i := 590) (by decide +kernel)) rfl
theorem kmL_66 : Cond.methodLink RL 66 yX5_type ∈ lw_all := lw_m (List.mem_of_getElem? (i := 591) (by decide +kernel)) rfl
theorem ki_X5_type : Cond.instanceMethod yX5_type ∈ lw_all := lw_m (List.mem_of_getElem? (i := 592) (by decide +kernel)) rfl
theorem ks_X5_type : Cond.selects RX5 yX5_type yX5_type ∈ lw_all := lw_m (List.mem_of_getElem? (i := 593) (by decide +kernel)) rfl
theorem kc_X5_type : Cond.code yX5_type cX5_type 5 (some FieldType.int) ∈ lw_all := lw_m (List.mem_of_getElem? (i := 594) (by decide +kernel)) rfl
theorem kkX5_120 : Cond.constantLong RX5 120 (255) ∈ lw_all := lw_m (List.mem_of_getElem? (i := 595) (by decide +kernel)) rfl
theorem kmL_71 : Cond.methodLink RL 71 yX5_clear ∈ lw_all := lw_m (List.mem_of_getElem? (i := 596) (by decide +kernel)) rfl
theorem ki_X5_clear : Cond.instanceMethod yX5_clear ∈ lw_all := lw_m (List.mem_of_getElem? (i := 597) (by decide +kernel)) rfl
theorem ks_X5_clear : Cond.selects RX5 yX5_clear yX5_clear ∈ lw_all := lw_m (List.mem_of_getElem? (i := 598) (by decide +kernel)) rfl
theorem kc_X5_clear : Cond.code yX5_clear cX5_clear 2 (some FieldType.int) ∈ lw_all := lw_m (List.mem_of_getElem? (i := 599) (by decide +kernel)) rfl
theorem kmL_75 : Cond.methodLink RL 75 yX5_charter ∈ lw_all := lw_m (List.mem_of_getElem? (i := 600) (by decide +kernel)) rfl
theorem ki_X5_charter : Cond.instanceMethod yX5_charter ∈ lw_all := lw_m (List.mem_of_getElem? (i := 601) (by decide +kernel)) rfl
theorem ks_X5_charter : Cond.selects RX5 yX5_charter yX5_charter ∈ lw_all := lw_m (List.mem_of_getElem? (i := 602) (by decide +kernel)) rfl
theorem kc_X5_charter : Cond.code yX5_charter cX5_charter 4 (some FieldType.int) ∈ lw_all := lw_m (List.mem_of_getElem? (i := 603) (by decide +kernel)) rfl
theorem kmX5_125 : Cond.methodLink RX5 125 yX5_faultOf ∈ lw_all := lw_m (List.mem_of_getElem? (i := 604) (by decide +kernel)) rfl
theorem ki_X5_faultOf : Cond.instanceMethod yX5_faultOf ∈ lw_all := lw_m (List.mem_of_getElem? (i := 606) (by decide +kernel)) rfl
theorem kc_X5_faultOf : Cond.code yX5_faultOf cX5_faultOf 5 (some FieldType.int) ∈ lw_all := lw_m (List.mem_of_getElem? (i := 607) (by decide +kernel)) rfl
theorem kmX5_122 : Cond.methodLink RX5 122 yX5_isDigit ∈ lw_all := lw_m (List.mem_of_getElem? (i := 608) (by decide +kernel)) rfl
theorem ki_X5_isDigit : Cond.instanceMethod yX5_isDigit ∈ lw_all := lw_m (List.mem_of_getElem? (i := 610) (by decide +kernel)) rfl
theorem kc_X5_isDigit : Cond.code yX5_isDigit cX5_isDigit 2 (some FieldType.boolean) ∈ lw_all := lw_m (List.mem_of_getElem? (i := 611) (by decide +kernel)) rfl
theorem kmL_79 : Cond.methodLink RL 79 yX5_term ∈ lw_all := lw_m (List.mem_of_getElem? (i := 612) (by decide +kernel)) rfl
theorem ki_X5_term : Cond.instanceMethod yX5_term ∈ lw_all := lw_m (List.mem_of_getElem? (i := 613) (by decide +kernel)) rfl
theorem ks_X5_term : Cond.selects RX5 yX5_term yX5_term ∈ lw_all := lw_m (List.mem_of_getElem? (i := 614) (by decide +kernel)) rfl
theorem kc_X5_term : Cond.code yX5_term cX5_term 3 (some FieldType.int) ∈ lw_all := lw_m (List.mem_of_getElem? (i := 615) (by decide +kernel)) rfl
theorem kmL_83 : Cond.methodLink RL 83 yX5_owed ∈ lw_all := lw_m (List.mem_of_getElem? (i := 616) (by decide +kernel)) rfl
theorem ki_X5_owed : Cond.instanceMethod yX5_owed ∈ lw_all := lw_m (List.mem_of_getElem? (i := 617) (by decide +kernel)) rfl
theorem ks_X5_owed : Cond.selects RX5 yX5_owed yX5_owed ∈ lw_all := lw_m (List.mem_of_getElem? (i := 618) (by decide +kernel)) rfl
theorem kc_X5_owed : Cond.code yX5_owed cX5_owed 5 (some FieldType.int) ∈ lw_all := lw_m (List.mem_of_getElem? (i := 619) (by decide +kernel)) rfl
theorem kkX5_136 : Cond.constant RX5 136 (-1000000) ∈ lw_all := lw_m (List.mem_of_getElem? (i := 620) (by decide +kernel)) rfl
theorem kmX5_137 : Cond.methodLink RX5 137 yX5_usedOf ∈ lw_all := lw_m (List.mem_of_getElem? (i := 621) (by decide +kernel)) rfl
theorem ki_X5_usedOf : Cond.instanceMethod yX5_usedOf ∈ lw_all := lw_m (List.mem_of_getElem? (i := 623) (by decide +kernel)) rfl
theorem kc_X5_usedOf : Cond.code yX5_usedOf cX5_usedOf 4 (some FieldType.int) ∈ lw_all := lw_m (List.mem_of_getElem? (i := 624) (by decide +kernel)) rfl
theorem kmX5_129 : Cond.methodLink RX5 129 yX5_last ∈ lw_all := lw_m (List.mem_of_getElem? (i := 625) (by decide +kernel)) rfl
theorem ki_X5_last : Cond.instanceMethod yX5_last ∈ lw_all := lw_m (List.mem_of_getElem? (i := 627) (by decide +kernel)) rfl
theorem kc_X5_last : Cond.code yX5_last cX5_last 2 (some FieldType.int) ∈ lw_all := lw_m (List.mem_of_getElem? (i := 628) (by decide +kernel)) rfl
theorem kmX5_132 : Cond.methodLink RX5 132 yX5_counts ∈ lw_all := lw_m (List.mem_of_getElem? (i := 629) (by decide +kernel)) rfl
theorem ki_X5_counts : Cond.instanceMethod yX5_counts ∈ lw_all := lw_m (List.mem_of_getElem? (i := 631) (by decide +kernel)) rfl
theorem kc_X5_counts : Cond.code yX5_counts cX5_counts 4 (some FieldType.boolean) ∈ lw_all := lw_m (List.mem_of_getElem? (i := 632) (by decide +kernel)) rfl
theorem kmL_87 : Cond.methodLink RL 87 yX5_shared ∈ lw_all := lw_m (List.mem_of_getElem? (i := 633) (by decide +kernel)) rfl
theorem ki_X5_shared : Cond.instanceMethod yX5_shared ∈ lw_all := lw_m (List.mem_of_getElem? (i := 634) (by decide +kernel)) rfl
theorem ks_X5_shared : Cond.selects RX5 yX5_shared yX5_shared ∈ lw_all := lw_m (List.mem_of_getElem? (i := 635) (by decide +kernel)) rfl
theorem kc_X5_shared : Cond.code yX5_shared cX5_shared 7 (some FieldType.int) ∈ lw_all := lw_m (List.mem_of_getElem? (i := 636) (by decide +kernel)) rfl
theorem kmL_91 : Cond.methodLink RL 91 yX5_delay ∈ lw_all := lw_m (List.mem_of_getElem? (i := 637) (by decide +kernel)) rfl
theorem ki_X5_delay : Cond.instanceMethod yX5_delay ∈ lw_all := lw_m (List.mem_of_getElem? (i := 638) (by decide +kernel)) rfl
theorem ks_X5_delay : Cond.selects RX5 yX5_delay yX5_delay ∈ lw_all := lw_m (List.mem_of_getElem? (i := 639) (by decide +kernel)) rfl
theorem kc_X5_delay : Cond.code yX5_delay cX5_delay 3 (some FieldType.int) ∈ lw_all := lw_m (List.mem_of_getElem? (i := 640) (by decide +kernel)) rfl
theorem kmL_95 : Cond.methodLink RL 95 yX5_letter ∈ lw_all := lw_m (List.mem_of_getElem? (i := 641) (by decide +kernel)) rfl
theorem ki_X5_letter : Cond.instanceMethod yX5_letter ∈ lw_all := lw_m (List.mem_of_getElem? (i := 642) (by decide +kernel)) rfl
theorem ks_X5_letter : Cond.selects RX5 yX5_letter yX5_letter ∈ lw_all := lw_m (List.mem_of_getElem? (i := 643) (by decide +kernel)) rfl
theorem kc_X5_letter : Cond.code yX5_letter cX5_letter 3 (some FieldType.int) ∈ lw_all := lw_m (List.mem_of_getElem? (i := 644) (by decide +kernel)) rfl
theorem kmX5_140 : Cond.methodLink RX5 140 yX5_isHere ∈ lw_all := lw_m (List.mem_of_getElem? (i := 645) (by decide +kernel)) rfl
theorem ki_X5_isHere : Cond.instanceMethod yX5_isHere ∈ lw_all := lw_m (List.mem_of_getElem? (i := 647) (by decide +kernel)) rfl
theorem kc_X5_isHere : Cond.code yX5_isHere cX5_isHere 2 (some FieldType.boolean) ∈ lw_all := lw_m (List.mem_of_getElem? (i := 648) (by decide +kernel)) rfl
theorem kmL_99 : Cond.methodLink RL 99 yX5_foretold ∈ lw_all := lw_m (List.mem_of_getElem? (i := 649) (by decide +kernel)) rfl
theorem ki_X5_foretold : Cond.instanceMethod yX5_foretold ∈ lw_all := lw_m (List.mem_of_getElem? (i := 650) (by decide +kernel)) rfl
theorem ks_X5_foretold : Cond.selects RX5 yX5_foretold yX5_foretold ∈ lw_all := lw_m (List.mem_of_getElem? (i := 651) (by decide +kernel)) rfl
theorem kc_X5_foretold : Cond.code yX5_foretold cX5_foretold 5 (some FieldType.int) ∈ lw_all := lw_m (List.mem_of_getElem? (i := 652) (by decide +kernel)) rfl
theorem kmL_103 : Cond.methodLink RL 103 yX5_count ∈ lw_all := lw_m (List.mem_of_getElem? (i := 653) (by decide +kernel)) rfl
theorem ki_X5_count : Cond.instanceMethod yX5_count ∈ lw_all := lw_m (List.mem_of_getElem? (i := 654) (by decide +kernel)) rfl
theorem ks_X5_count : Cond.selects RX5 yX5_count yX5_count ∈ lw_all := lw_m (List.mem_of_getElem? (i := 655) (by decide +kernel)) rfl
theorem kc_X5_count : Cond.code yX5_count cX5_count 5 (some FieldType.int) ∈ lw_all := lw_m (List.mem_of_getElem? (i := 656) (by decide +kernel)) rfl
theorem kmL_108 : Cond.methodLink RL 108 yX5_trace ∈ lw_all := lw_m (List.mem_of_getElem? (i := 657) (by decide +kernel)) rfl
theorem ki_X5_trace : Cond.instanceMethod yX5_trace ∈ lw_all := lw_m (List.mem_of_getElem? (i := 658) (by decide +kernel)) rfl
theorem ks_X5_trace : Cond.selects RX5 yX5_trace yX5_trace ∈ lw_all := lw_m (List.mem_of_getElem? (i := 659) (by decide +kernel)) rfl
theorem kc_X5_trace : Cond.code yX5_trace cX5_trace 1 (some FieldType.long) ∈ lw_all := lw_m (List.mem_of_getElem? (i := 660) (by decide +kernel)) rfl
theorem kkL_60 : Cond.constantLong RL 60 (4294967295) ∈ lw_all := lw_m (List.mem_of_getElem? (i := 661) (by decide +kernel)) rfl
end
section
/-! MY WORLD: every cell has an id; the int slots of all cells are the rows of V, the longs T, the references (ids again) R; α tells each id's address. 0 RockRoad, 1 swells, 2 Layers, 3 tons, 4 worths, 5 ships, 6 line, 7 Draft, 8 bytes, 9 terms, 10 Letters, 11 queues, 12 dug, 13 comings; 14 Model, 15 swell, 16 tons, 17 worth, 18 kind, 19 came, 20 wants, 21 water, 22 done, 23 cargo, 24 took, 25 queue, 26 dug, 27 comes, 28 draft, 29 terms, 30 read, 31 isMet; 32 + 4 i the Ship i, then its cargo, terms, log. -/
abbrev wG : Type := va_G × (Nat → ClassId)
abbrev wS : Type := (Nat → Nat → Int32) × (Nat → Int64) × (Nat → Nat → Option Nat)
def wc (g : wG) (α : Nat → Nat) (i : Nat) (v : Nat → Int32) (t : Int64) (r : Nat → Option Nat) : va_E :=
  match i with
  | 0 => .inr (4, [.ref (α 1), .ref (α 2), .ref (α 5), .ref (α 6), .ref (α 7), .ref (α 10), .int (v 6), .int (v 7), .int (v 8), .long t])
  | 1 => .inl (g.2 0, 201, .inl v)
  | 2 => .inr (1, [.ref (α 3), .ref (α 4), .int (v 2)])
  | 3 => .inl (g.2 0, 6, .inl v)
  | 4 => .inl (g.2 0, 6, .inl v)
  | 5 => .inl (g.2 2, 10, .inr (.inr (.inr (.inr (fun j => (r j).map α)))))
  | 6 => .inl (g.2 2, 10, .inr (.inr (.inr (.inr (fun j => (r j).map α)))))
  | 7 => .inr (0, [.ref (α 8), .ref (α 9), .int (v 2)])
  | 8 => .inl (g.2 0, 30, .inl v)
  | 9 => .inl (g.2 0, 6, .inl v)
  | 10 => .inr (2, [.ref (α 11), .ref (α 12), .ref (α 13)])
  | 11 => .inl (g.2 0, 200, .inl v)
  | 12 => .inl (g.2 0, 200, .inl v)
  | 13 => .inl (g.2 0, 200, .inl v)
  | 14 => .inr (5, [.int (v 0), .long t, .int (v 2), .ref (α 15), .int (v 4), .ref (α 16), .ref (α 17), .int (v 7), .ref (α 18), .ref (α 19), .ref (α 20), .ref (α 21), .ref (α 22), .ref (α 23), .ref (α 24), .ref (α 25), .ref (α 26), .ref (α 27), .int (v 18), .int (v 19), .ref (α 28), .int (v 21), .ref (α 29), .ref (α 30), .ref (α 31)])
  | 15 => .inl (g.2 0, 201, .inl v)
  | 16 => .inl (g.2 0, 6, .inl v)
  | 17 => .inl (g.2 0, 6, .inl v)
  | 18 => .inl (g.2 0, 10, .inl v)
  | 19 => .inl (g.2 0, 10, .inl v)
  | 20 => .inl (g.2 0, 10, .inl v)
  | 21 => .inl (g.2 0, 10, .inl v)
  | 22 => .inl (g.2 0, 10, .inl v)
  | 23 => .inl (g.2 0, 60, .inl v)
  | 24 => .inl (g.2 0, 2010, .inl v)
  | 25 => .inl (g.2 0, 201, .inl v)
  | 26 => .inl (g.2 0, 201, .inl v)
  | 27 => .inl (g.2 0, 201, .inl v)
  | 28 => .inl (g.2 0, 30, .inl v)
  | 29 => .inl (g.2 0, 60, .inl v)
  | 30 => .inl (g.2 0, 6, .inl v)
  | 31 => .inl (g.2 1, 10, .inl v)
  | i + 32 => if i % 4 = 0 then .inr (3, [.int (v 0), .int (v 1), .int (v 2), .ref (α (i + 33)), .ref (α (i + 34)), .ref (α (i + 35)), .int (v 6), .int (v 7), .int (v 8), .int (v 9)]) else if i % 4 = 3 then .inl (g.2 0, 200, .inl v) else .inl (g.2 0, 6, .inl v)
theorem wc_ship (g : wG) (α : Nat → Nat) (i : Nat) (v : Nat → Int32) (t : Int64) (r : Nat → Option Nat) : wc g α (32 + 4 * i) v t r = .inr (3, [.int (v 0), .int (v 1), .int (v 2), .ref (α (33 + 4 * i)), .ref (α (34 + 4 * i)), .ref (α (35 + 4 * i)), .int (v 6), .int (v 7), .int (v 8), .int (v 9)]) := by
  rw [Nat.add_comm 32 (4 * i), Nat.add_comm 33 (4 * i), Nat.add_comm 34 (4 * i), Nat.add_comm 35 (4 * i)]
  exact if_pos (by omega)
theorem wc_cargo (g : wG) (α : Nat → Nat) (i : Nat) (v : Nat → Int32) (t : Int64) (r : Nat → Option Nat) : wc g α (33 + 4 * i) v t r = .inl (g.2 0, 6, .inl v) := by
  rw [show 33 + 4 * i = (4 * i + 1) + 32 by omega]
  exact (if_neg (by omega)).trans (if_neg (by omega))
theorem wc_terms (g : wG) (α : Nat → Nat) (i : Nat) (v : Nat → Int32) (t : Int64) (r : Nat → Option Nat) : wc g α (34 + 4 * i) v t r = .inl (g.2 0, 6, .inl v) := by
  rw [show 34 + 4 * i = (4 * i + 2) + 32 by omega]
  exact (if_neg (by omega)).trans (if_neg (by omega))
theorem wc_log (g : wG) (α : Nat → Nat) (i : Nat) (v : Nat → Int32) (t : Int64) (r : Nat → Option Nat) : wc g α (35 + 4 * i) v t r = .inl (g.2 0, 200, .inl v) := by
  rw [show 35 + 4 * i = (4 * i + 3) + 32 by omega]
  exact (if_neg (by omega)).trans (if_pos (by omega))
def wld (g : wG) (α : Nat → Nat) (σ : wS) (N : Nat) : va_W := (List.range N).map (fun i => (α i, wc g α i (σ.1 i) (σ.2.1 i) (σ.2.2 i)))
def wtys (g : wG) : List (ClassId × FieldType) := [(g.2 0, .int), (g.2 1, .boolean), (g.2 2, .object "RockRoad$Ship")]
theorem wld_get {g : wG} {α : Nat → Nat} {σ : wS} {N i : Nat} (h : i < N) : (wld g α σ N)[i]? = some (α i, wc g α i (σ.1 i) (σ.2.1 i) (σ.2.2 i)) := by
  simp [wld, List.getElem?_map, List.getElem?_range h]
theorem wld_set {g : wG} {α : Nat → Nat} {σ σ' : wS} {N i : Nat} {e : va_E} (h : i < N) (he : wc g α i (σ'.1 i) (σ'.2.1 i) (σ'.2.2 i) = e) (ho : ∀ j, j ≠ i → σ'.1 j = σ.1 j ∧ σ'.2.1 j = σ.2.1 j ∧ σ'.2.2 j = σ.2.2 j) : (wld g α σ N).set i (α i, e) = wld g α σ' N := by
  apply List.ext_getElem?
  intro j
  by_cases hj : j = i
  · subst hj
    rw [List.getElem?_set_self (by simp [wld]; exact h), wld_get h, he]
  · rw [List.getElem?_set_ne (Ne.symm hj)]
    by_cases hN : j < N
    · rw [wld_get hN, wld_get hN, (ho j hj).1, (ho j hj).2.1, (ho j hj).2.2]
    · rw [List.getElem?_eq_none (by simp [wld]; omega), List.getElem?_eq_none (by simp [wld]; omega)]
/-- writes: an int slot, a long, a reference -/
def wu (σ : wS) (i k : Nat) (x : Int32) : wS := (va_up σ.1 i (upd (σ.1 i) k x), σ.2)
def wuL (σ : wS) (i : Nat) (x : Int64) : wS := (σ.1, va_up σ.2.1 i x, σ.2.2)
def wuR (σ : wS) (i k : Nat) (x : Option Nat) : wS := (σ.1, σ.2.1, va_up σ.2.2 i (va_up (σ.2.2 i) k x))
def wX (p : Program) (s : State) (m : MethodId) (args : Array Value) (c : Code) (cc : ByteArray) (nL : Nat) (own : String) (g : wG) : Prop := CallFix p m c cc nL s args lw_all own ∧ va_K g.1 vwCl (wtys g) s
def wI (g : wG) (α : Nat → Nat) (N : Nat) (A : Nat → Prop) (H0 H : Heap) (locs : List Loc) (σ : wS) : Prop := va_P g.1 vwCl (wld g α σ N) H ∧ va_D A (wld g α σ N) ∧ va_S A H0 H locs
def wA (α : Nat → Nat) (N sz : Nat) : Nat → Prop := fun q => (∃ i, i < N ∧ q = α i) ∨ sz ≤ q
def wPc (g : wG) (α : Nat → Nat) (N : Nat) (σ : wS) (av : List Value) : Array Value → State → Prop := va_Pc av (fun U => va_P g.1 vwCl (wld g α σ N) U.heap ∧ va_K g.1 vwCl (wtys g) U ∧ va_D (fun _ => True) (wld g α σ N))
def wPs (g : wG) (α : Nat → Nat) (N sz : Nat) (σ : wS) (av : List Value) : Array Value → State → Prop := va_Pc av (fun U => U.heap.size = sz ∧ va_P g.1 vwCl (wld g α σ N) U.heap ∧ va_K g.1 vwCl (wtys g) U ∧ va_D (fun _ => True) (wld g α σ N))
theorem wPc_blind {g : wG} {α : Nat → Nat} {N : Nat} {σ : wS} {av : List Value} : FrameBlind (wPc g α N σ av) := fun a U f mk q => by
  obtain ⟨q0, qP, qK, qD⟩ := q
  exact ⟨q0, qP, va_K.moved (u := U) (U := U.calling f mk a) (Vm.Alike.refl U.vm) qK, qD⟩
theorem wPs_blind {g : wG} {α : Nat → Nat} {N sz : Nat} {σ : wS} {av : List Value} : FrameBlind (wPs g α N sz σ av) := fun a U f mk q => by
  obtain ⟨q0, q1, qP, qK, qD⟩ := q
  exact ⟨q0, q1, qP, va_K.moved (u := U) (U := U.calling f mk a) (Vm.Alike.refl U.vm) qK, qD⟩
/-- the ends of methods that read alone: an int (or a boolean), a reference; of methods that write: an int, nothing, a long -/
def wB (g : wG) (α : Nat → Nat) (N : Nat) : wS → State → Prop := fun σ t => va_P g.1 vwCl (wld g α σ N) t.heap
section WR
variable {p : Program} {l : Launch} {e : Env} {R : Room} {s : State} {m : MethodId} {args : Array Value} {below : List Frame} {meth : Method} {c : Code} {H : Heap} {locs : List Loc} {cells slots : Nat} {Q : State → Prop}
variable {pc : Nat} {ls : Array Slot} {rest : List Value} {g : wG} {α : Nat → Nat} {N : Nat} {A : Nat → Prop} {H0 : Heap} {σ : wS} {own : String} {cc : ByteArray} {nL : Nat}
theorem w_get (X : wX p s m args c cc nL own g) (I : wI g α N A H0 H locs σ) (i : Nat) (hi : i < N) {ci Nf index k : Nat} {fs : List Value} {C : String} {T : u_T} {v : Value} (he : wc g α i (σ.1 i) (σ.2.1 i) (σ.2.2 i) = .inr (ci, fs)) (hc : vwCl[ci]? = some (C, T, Nf)) (hin : ∀ w ∈ u_ws C T Nf, w ∈ lw_all) (hk : k < Nf) (hl : Cond.fieldLink own index (T k).1 (T k).2.1 (T k).2.2.1 ∈ lw_all) (hv : fs[k]? = some v) (hdg : decode cc pc = .ok (.getfield index, 3))
    (kk : W p l e R s m args below meth c H locs cells slots Q (F0 m (pc + 3) ls (v :: rest))) : W p l e R s m args below meth c H locs cells slots Q (F0 m pc ls (.ref (α i) :: rest)) :=
  va_get (D := g.1) X.1.1 X.1.2.1 X.1.2.2.2.2 hin X.1.2.2.2.1 X.2 I.1 i ((wld_get hi).trans (by rw [he])) hc k hk (X.1.2.2.2.2 _ hl) (fun _ h => h) hv hdg kk
theorem w_put (X : wX p s m args c cc nL own g) (I : wI g α N A H0 H locs σ) (i : Nat) (hi : i < N) {ci Nf index k : Nat} {fs : List Value} {C : String} {T : u_T} {x : Int32} (he : wc g α i (σ.1 i) (σ.2.1 i) (σ.2.2 i) = .inr (ci, fs)) (he2 : wc g α i (upd (σ.1 i) k x) (σ.2.1 i) (σ.2.2 i) = .inr (ci, fs.set k (.int x))) (hc : vwCl[ci]? = some (C, T, Nf)) (hin : ∀ w ∈ u_ws C T Nf, w ∈ lw_all) (ty0 : Nat → FieldType) (hty : ∀ k, k < Nf → parseFieldDescriptor (T k).2.2.1 = some (ty0 k)) (hnm : ∀ a, a < Nf → ∀ b, b < Nf → a ≠ b → (T a).2.1 ≠ (T b).2.1) (hk : k < Nf) (hl : Cond.fieldLink own index (T k).1 (T k).2.1 (T k).2.2.1 ∈ lw_all) (hfin : (T k).2.2.2 = false) (hd : parseFieldDescriptor (T k).2.2.1 = some .int) (hlf : k < fs.length) (hdg : decode cc pc = .ok (.putfield index, 3))
    (kk : ∀ (H1 : Heap) (locs1 : List Loc), wI g α N A H0 H1 locs1 (wu σ i k x) → W p l e R s m args below meth c H1 locs1 cells slots Q (F0 m (pc + 3) ls rest)) : W p l e R s m args below meth c H locs cells slots Q (F0 m pc ls (.int x :: .ref (α i) :: rest)) := by
  have hset : (wld g α σ N).set i (α i, .inr (ci, fs.set k (.int x))) = wld g α (wu σ i k x) N := wld_set hi (by rw [← he2]; simp [wu, va_up_self]) (fun j hj => ⟨by simp [wu, va_up_ne _ _ hj], rfl, rfl⟩)
  refine va_put (D := g.1) X.1.1 X.1.2.1 X.1.2.2.2.2 hin ty0 hty hnm X.1.2.2.2.1 X.2 I.1 I.2.1 I.2.2 i ((wld_get hi).trans (by rw [he])) hc k hk (X.1.2.2.2.2 _ hl) (fun _ h => h) hfin hd rfl rfl hlf hdg (fun H1 locs1 hP hD hS => ?_)
  rw [hset] at hP hD
  exact kk H1 locs1 ⟨hP, hD, hS⟩
theorem w_putL (X : wX p s m args c cc nL own g) (I : wI g α N A H0 H locs σ) (i : Nat) (hi : i < N) {ci Nf index k : Nat} {fs : List Value} {C : String} {T : u_T} {x : Int64} (he : wc g α i (σ.1 i) (σ.2.1 i) (σ.2.2 i) = .inr (ci, fs)) (he2 : wc g α i (σ.1 i) x (σ.2.2 i) = .inr (ci, fs.set k (.long x))) (hc : vwCl[ci]? = some (C, T, Nf)) (hin : ∀ w ∈ u_ws C T Nf, w ∈ lw_all) (ty0 : Nat → FieldType) (hty : ∀ k, k < Nf → parseFieldDescriptor (T k).2.2.1 = some (ty0 k)) (hnm : ∀ a, a < Nf → ∀ b, b < Nf → a ≠ b → (T a).2.1 ≠ (T b).2.1) (hk : k < Nf) (hl : Cond.fieldLink own index (T k).1 (T k).2.1 (T k).2.2.1 ∈ lw_all) (hfin : (T k).2.2.2 = false) (hd : parseFieldDescriptor (T k).2.2.1 = some .long) (hlf : k < fs.length) (hdg : decode cc pc = .ok (.putfield index, 3))
    (kk : ∀ (H1 : Heap) (locs1 : List Loc), wI g α N A H0 H1 locs1 (wuL σ i x) → W p l e R s m args below meth c H1 locs1 cells slots Q (F0 m (pc + 3) ls rest)) : W p l e R s m args below meth c H locs cells slots Q (F0 m pc ls (.long x :: .ref (α i) :: rest)) := by
  have hset : (wld g α σ N).set i (α i, .inr (ci, fs.set k (.long x))) = wld g α (wuL σ i x) N := wld_set hi (by rw [← he2]; simp [wuL, va_up_self]) (fun j hj => ⟨rfl, by simp [wuL, va_up_ne _ _ hj], rfl⟩)
  refine va_put (D := g.1) X.1.1 X.1.2.1 X.1.2.2.2.2 hin ty0 hty hnm X.1.2.2.2.1 X.2 I.1 I.2.1 I.2.2 i ((wld_get hi).trans (by rw [he])) hc k hk (X.1.2.2.2.2 _ hl) (fun _ h => h) hfin hd rfl rfl hlf hdg (fun H1 locs1 hP hD hS => ?_)
  rw [hset] at hP hD
  exact kk H1 locs1 ⟨hP, hD, hS⟩
theorem w_ld (X : wX p s m args c cc nL own g) (I : wI g α N A H0 H locs σ) (i : Nat) (hi : i < N) {n k : Nat} {x : Int32} (he : ∀ v t r, wc g α i v t r = .inl (g.2 0, n, .inl v)) (hx : x = nI k) (hk : k < n) (hn : n < 2 ^ 31) (hdg : decode cc pc = .ok (.iaload, 1))
    (kk : W p l e R s m args below meth c H locs cells slots Q (F0 m (pc + 1) ls (.int (σ.1 i k) :: rest))) : W p l e R s m args below meth c H locs cells slots Q (F0 m pc ls (.int x :: .ref (α i) :: rest)) := by
  subst hx
  refine va_iald (D := g.1) X.1.1 X.1.2.1 X.2 I.1 i 0 ((wld_get hi).trans (by rw [he])) rfl (vp_in_nI hk hn) hdg ?_
  rw [nI_clamp (by omega)]
  exact kk
theorem w_ldz (X : wX p s m args c cc nL own g) (I : wI g α N A H0 H locs σ) (i : Nat) (hi : i < N) {n k : Nat} {x : Int32} (he : ∀ v t r, wc g α i v t r = .inl (g.2 1, n, .inl v)) (hx : x = nI k) (hk : k < n) (hn : n < 2 ^ 31) (hdg : decode cc pc = .ok (.baload, 1))
    (kk : W p l e R s m args below meth c H locs cells slots Q (F0 m (pc + 1) ls (.int (σ.1 i k) :: rest))) : W p l e R s m args below meth c H locs cells slots Q (F0 m pc ls (.int x :: .ref (α i) :: rest)) := by
  subst hx
  refine va_zald (D := g.1) X.1.1 X.1.2.1 X.2 I.1 i 1 ((wld_get hi).trans (by rw [he])) rfl (vp_in_nI hk hn) hdg ?_
  rw [nI_clamp (by omega)]
  exact kk
theorem w_st (X : wX p s m args c cc nL own g) (I : wI g α N A H0 H locs σ) (i : Nat) (hi : i < N) {n k : Nat} {x y : Int32} (he : ∀ v t r, wc g α i v t r = .inl (g.2 0, n, .inl v)) (hx : x = nI k) (hk : k < n) (hn : n < 2 ^ 31) (hdg : decode cc pc = .ok (.iastore, 1))
    (kk : ∀ (H1 : Heap) (locs1 : List Loc), wI g α N A H0 H1 locs1 (wu σ i k y) → W p l e R s m args below meth c H1 locs1 cells slots Q (F0 m (pc + 1) ls rest)) : W p l e R s m args below meth c H locs cells slots Q (F0 m pc ls (.int y :: .int x :: .ref (α i) :: rest)) := by
  subst hx
  refine va_iast (D := g.1) X.1.1 X.1.2.1 X.2 I.1 I.2.1 I.2.2 i 0 ((wld_get hi).trans (by rw [he])) rfl (vp_in_nI hk hn) hdg (fun H1 locs1 hP hD hS => ?_)
  rw [nI_clamp (by omega)] at hP hD
  have hset : (wld g α σ N).set i (α i, .inl (g.2 0, n, .inl (upd (σ.1 i) k y))) = wld g α (wu σ i k y) N := wld_set hi (by rw [he]; simp [wu, va_up_self]) (fun j hj => ⟨by simp [wu, va_up_ne _ _ hj], rfl, rfl⟩)
  rw [hset] at hP hD
  exact kk H1 locs1 ⟨hP, hD, hS⟩
theorem w_stz (X : wX p s m args c cc nL own g) (I : wI g α N A H0 H locs σ) (i : Nat) (hi : i < N) {n k : Nat} {x y : Int32} (he : ∀ v t r, wc g α i v t r = .inl (g.2 1, n, .inl v)) (hx : x = nI k) (hk : k < n) (hn : n < 2 ^ 31) (hy : vp_nar .boolean y = y) (hdg : decode cc pc = .ok (.bastore, 1))
    (kk : ∀ (H1 : Heap) (locs1 : List Loc), wI g α N A H0 H1 locs1 (wu σ i k y) → W p l e R s m args below meth c H1 locs1 cells slots Q (F0 m (pc + 1) ls rest)) : W p l e R s m args below meth c H locs cells slots Q (F0 m pc ls (.int y :: .int x :: .ref (α i) :: rest)) := by
  subst hx
  refine va_zast (D := g.1) X.1.1 X.1.2.1 X.2 I.1 I.2.1 I.2.2 i 1 ((wld_get hi).trans (by rw [he])) rfl (vp_in_nI hk hn) hdg (fun H1 locs1 hP hD hS => ?_)
  rw [nI_clamp (by omega), hy] at hP hD
  have hset : (wld g α σ N).set i (α i, .inl (g.2 1, n, .inl (upd (σ.1 i) k y))) = wld g α (wu σ i k y) N := wld_set hi (by rw [he]; simp [wu, va_up_self]) (fun j hj => ⟨by simp [wu, va_up_ne _ _ hj], rfl, rfl⟩)
  rw [hset] at hP hD
  exact kk H1 locs1 ⟨hP, hD, hS⟩
theorem w_ldq (X : wX p s m args c cc nL own g) (I : wI g α N A H0 H locs σ) (i : Nat) (hi : i < N) {n k j : Nat} {x : Int32} (he : ∀ v t r, wc g α i v t r = .inl (g.2 2, n, .inr (.inr (.inr (.inr (fun j => (r j).map α)))))) (hx : x = nI k) (hk : k < n) (hn : n < 2 ^ 31) (hj : σ.2.2 i k = some j) (hdg : decode cc pc = .ok (.aaload, 1))
    (kk : W p l e R s m args below meth c H locs cells slots Q (F0 m (pc + 1) ls (.ref (α j) :: rest))) : W p l e R s m args below meth c H locs cells slots Q (F0 m pc ls (.int x :: .ref (α i) :: rest)) := by
  subst hx
  refine va_aldq (D := g.1) X.1.1 X.1.2.1 X.2 I.1 i 2 ((wld_get hi).trans (by rw [he])) rfl (vp_in_nI hk hn) hdg ?_
  rw [nI_clamp (by omega), hj]
  exact kk
theorem w_stq (X : wX p s m args c cc nL own g) (I : wI g α N A H0 H locs σ) (i : Nat) (hi : i < N) {n k j : Nat} {x : Int32} (he : ∀ v t r, wc g α i v t r = .inl (g.2 2, n, .inr (.inr (.inr (.inr (fun j => (r j).map α)))))) (hx : x = nI k) (hk : k < n) (hn : n < 2 ^ 31) (hjN : j < N) {vs : List Value} (hj : wc g α j (σ.1 j) (σ.2.1 j) (σ.2.2 j) = .inr (3, vs)) (hdg : decode cc pc = .ok (.aastore, 1))
    (kk : ∀ (H1 : Heap) (locs1 : List Loc), wI g α N A H0 H1 locs1 (wuR σ i k (some j)) → W p l e R s m args below meth c H1 locs1 cells slots Q (F0 m (pc + 1) ls rest)) : W p l e R s m args below meth c H locs cells slots Q (F0 m pc ls (.ref (α j) :: .int x :: .ref (α i) :: rest)) := by
  subst hx
  refine va_astq (D := g.1) X.1.1 X.1.2.1 X.2 I.1 I.2.1 I.2.2 i 2 j 3 ((wld_get hi).trans (by rw [he])) rfl ((wld_get hjN).trans (by rw [hj])) rfl (vp_in_nI hk hn) hdg (fun H1 locs1 hP hD hS => ?_)
  rw [nI_clamp (by omega)] at hP hD
  have hset : (wld g α σ N).set i (α i, .inl (g.2 2, n, .inr (.inr (.inr (.inr (va_up (fun j => (σ.2.2 i j).map α) k (some (α j)))))))) = wld g α (wuR σ i k (some j)) N := wld_set hi (by
      rw [he]
      have : (fun j' => ((wuR σ i k (some j)).2.2 i j').map α) = va_up (fun j => (σ.2.2 i j).map α) k (some (α j)) := by
        funext z
        by_cases hz : z = k
        · subst hz; simp [wuR, va_up]
        · simp [wuR, va_up, hz]
      rw [this]) (fun j hj => ⟨rfl, rfl, by simp [wuR, va_up_ne _ _ hj]⟩)
  rw [hset] at hP hD
  exact kk H1 locs1 ⟨hP, hD, hS⟩
/-- ends -/
theorem w_iretS {post : Int32 → Prop} {v : Int32} (X : wX p s m args c cc nL own g) (hr : meth.sig.returnType = some .int) (hlk : meth.locks = false) (hp : post v) (hdg : decode cc pc = .ok (.ireturn, 1)) : W p l e R s m args below meth c s.heap [] 0 0 (MQ below (vp_Si post) args s 0 0 (fun _ => False)) (F0 m pc ls [.int v]) :=
  W.iret X.1.1 X.1.2.1 hr (fun t ht hW => ⟨v, rfl, hp, ht⟩) (fun q h => by cases h) hdg
theorem w_zretS {post : Int32 → Prop} {v : Int32} (X : wX p s m args c cc nL own g) (hr : meth.sig.returnType = some .boolean) (hlk : meth.locks = false) (hv : v = 0 ∨ v = 1) (hp : post v) (hdg : decode cc pc = .ok (.ireturn, 1)) : W p l e R s m args below meth c s.heap [] 0 0 (MQ below (vp_Si post) args s 0 0 (fun _ => False)) (F0 m pc ls [.int v]) :=
  W.zret X.1.1 X.1.2.1 hr (by rcases hv with h | h <;> subst h <;> rfl) (fun t ht hW => ⟨v, rfl, hp, ht⟩) (fun q h => by cases h) hdg
theorem w_iret {post : Int32 → wS → Prop} {v : Int32} (X : wX p s m args c cc nL own g) (I : wI g α N A s.heap H locs σ) (hr : meth.sig.returnType = some .int) (hlk : meth.locks = false) (hp : post v σ) (hdg : decode cc pc = .ok (.ireturn, 1)) : W p l e R s m args below meth c H locs cells slots (MQ below (va_Qi post (wB g α N) A) args s cells slots A) (F0 m pc ls [.int v]) :=
  W.iret X.1.1 X.1.2.1 hr (fun t ht hW => ⟨⟨v, σ, rfl, hp, by show va_P _ _ _ t.heap; rw [ht]; exact I.1⟩, I.2.2.F ht⟩) I.2.2.2.2 hdg
theorem w_zret {post : Int32 → wS → Prop} {v : Int32} (X : wX p s m args c cc nL own g) (I : wI g α N A s.heap H locs σ) (hr : meth.sig.returnType = some .boolean) (hlk : meth.locks = false) (hv : v = 0 ∨ v = 1) (hp : post v σ) (hdg : decode cc pc = .ok (.ireturn, 1)) : W p l e R s m args below meth c H locs cells slots (MQ below (va_Qi post (wB g α N) A) args s cells slots A) (F0 m pc ls [.int v]) :=
  W.zret X.1.1 X.1.2.1 hr (by rcases hv with h | h <;> subst h <;> rfl) (fun t ht hW => ⟨⟨v, σ, rfl, hp, by show va_P _ _ _ t.heap; rw [ht]; exact I.1⟩, I.2.2.F ht⟩) I.2.2.2.2 hdg
theorem w_vret {post : wS → Prop} (X : wX p s m args c cc nL own g) (I : wI g α N A s.heap H locs σ) (hr : meth.sig.returnType = none) (hlk : meth.locks = false) (hp : post σ) (hdg : decode cc pc = .ok (.return_, 1)) : W p l e R s m args below meth c H locs cells slots (MQ below (va_Qv post (wB g α N) A) args s cells slots A) (F0 m pc ls []) :=
  W.vret X.1.1 X.1.2.1 hr (fun t ht hW => ⟨⟨σ, rfl, hp, by show va_P _ _ _ t.heap; rw [ht]; exact I.1⟩, I.2.2.F ht⟩) I.2.2.2.2 hdg
theorem w_lretS {post : Int64 → Prop} {v : Int64} (X : wX p s m args c cc nL own g) (hr : meth.sig.returnType = some .long) (hlk : meth.locks = false) (hp : post v) (hdg : decode cc pc = .ok (.lreturn, 1)) : W p l e R s m args below meth c s.heap [] 0 0 (MQ below (vp_Sl post) args s 0 0 (fun _ => False)) (F0 m pc ls [.long v]) :=
  W.lret X.1.1 X.1.2.1 hr (fun t ht hW => ⟨v, rfl, hp, ht⟩) (fun q h => by cases h) hdg
theorem w_lret {post : Int64 → wS → Prop} {v : Int64} (X : wX p s m args c cc nL own g) (I : wI g α N A s.heap H locs σ) (hr : meth.sig.returnType = some .long) (hlk : meth.locks = false) (hp : post v σ) (hdg : decode cc pc = .ok (.lreturn, 1)) : W p l e R s m args below meth c H locs cells slots (MQ below (va_Ql post (wB g α N) A) args s cells slots A) (F0 m pc ls [.long v]) :=
  W.lret X.1.1 X.1.2.1 hr (fun t ht hW => ⟨⟨v, σ, rfl, hp, by show va_P _ _ _ t.heap; rw [ht]; exact I.1⟩, I.2.2.F ht⟩) I.2.2.2.2 hdg
theorem w_aretS {post : Option Nat → Prop} {r : Option Nat} {v : Value} {C : String} (hv : v = va_rf r) (X : wX p s m args c cc nL own g) (hr : meth.sig.returnType = some (.object C)) (hlk : meth.locks = false) (hp : post r) (hdg : decode cc pc = .ok (.areturn, 1)) : W p l e R s m args below meth c s.heap [] 0 0 (MQ below (va_Sq post) args s 0 0 (fun _ => False)) (F0 m pc ls [v]) := by
  subst hv
  exact W.aret X.1.1 X.1.2.1 hr (Or.inl ⟨C, rfl⟩) (va_rf_or r) (fun t ht hW => ⟨r, rfl, hp, ht⟩) (fun q h => by cases h) hdg
end WR
section WE
variable {l : Launch} {g : wG} {α : Nat → Nat} {N : Nat} {σ : wS}
/-- the entry of a method that reads alone -/
theorem w_enterS {y : MethodName} {rm : Room} {cc : ByteArray} {maxL : Nat} {ret : Option FieldType} {Qc : Array Value → State → Outcome → State → Prop} {av : List Value} (hy : plainName y.cls = true) (hlen : (lg_sl av).length ≤ maxL)
    (body : ∀ (p : Program) (e : Env) (s : State) (m : MethodId) (args : Array Value) (below : List Frame) (meth : Method) (c : Code), wX p s m args c cc maxL y.cls g → wI g α N (fun _ => True) s.heap s.heap [] σ → meth.sig.returnType = ret → meth.locks = false → ∀ ls : Array Slot, lv_has ls maxL (lv_args 0 av) → W p l e rm s m args below meth c s.heap [] 0 0 (MQ below Qc args s 0 0 (fun _ => False)) (F0 m 0 ls [])) :
    Met l y (wM y cc maxL ret) rm (wPc g α N σ av) Qc 0 0 (fun _ => False) := by
  refine Met.ofW (cc := cc) (maxL := maxL) (ret := ret) hy rfl ?_
  intro p e s m args below meth c s₁ B hml hv
  obtain ⟨rfl, hP, hK, hD⟩ := hv
  have hl := lv_entry av hlen
  rw [lg_entry_eq]
  exact body p e s m _ below meth c ⟨⟨B.exec, B.bytes, hml, findClass_of_methodNamed B.named, fun w h => atoms_spec (ws := wM y cc maxL ret) B.pre w (List.mem_cons_of_mem _ h)⟩, hK⟩ ⟨hP, hD, va_S.rf⟩ B.returns B.notSynchronized _ hl
/-- the entry of a method that writes -/
theorem w_enter {sz mc ms : Nat} {y : MethodName} {rm : Room} {cc : ByteArray} {maxL : Nat} {ret : Option FieldType} {Qc : Array Value → State → Outcome → State → Prop} {av : List Value} (hy : plainName y.cls = true) (hlen : (lg_sl av).length ≤ maxL)
    (body : ∀ (p : Program) (e : Env) (s : State) (m : MethodId) (args : Array Value) (below : List Frame) (meth : Method) (c : Code), s.heap.size = sz → wX p s m args c cc maxL y.cls g → wI g α N (wA α N sz) s.heap s.heap [] σ → meth.sig.returnType = ret → meth.locks = false → ∀ ls : Array Slot, lv_has ls maxL (lv_args 0 av) → W p l e rm s m args below meth c s.heap [] 0 0 (MQ below Qc args s mc ms (wA α N sz)) (F0 m 0 ls [])) :
    Met l y (wM y cc maxL ret) rm (wPs g α N sz σ av) Qc mc ms (wA α N sz) := by
  refine Met.ofW (cc := cc) (maxL := maxL) (ret := ret) hy rfl ?_
  intro p e s m args below meth c s₁ B hml hv
  obtain ⟨rfl, hsz, hP, hK, hD⟩ := hv
  have hl := lv_entry av hlen
  rw [lg_entry_eq]
  refine body p e s m _ below meth c hsz ⟨⟨B.exec, B.bytes, hml, findClass_of_methodNamed B.named, fun w h => atoms_spec (ws := wM y cc maxL ret) B.pre w (List.mem_cons_of_mem _ h)⟩, hK⟩ ⟨hP, ⟨hD.1, fun k q hk => ?_⟩, va_S.rf⟩ B.returns B.notSynchronized _ hl
  refine Or.inl ⟨k, ?_, ?_⟩
  · have := (List.getElem?_eq_some_iff.mp hk).1
    simpa [wld] using this
  · have hkN : k < N := by
      have := (List.getElem?_eq_some_iff.mp hk).1
      simpa [wld] using this
    rw [wld_get hkN] at hk
    cases hk
    rfl
end WE
section WCALL
variable {p : Program} {l : Launch} {e : Env} {R : Room} {s : State} {m : MethodId} {args : Array Value} {below : List Frame} {meth : Method} {c : Code} {H : Heap} {locs : List Loc} {cells slots : Nat} {Q : State → Prop}
variable {pc : Nat} {ls : Array Slot} {rest st0 : List Value} {g : wG} {α : Nat → Nat} {N : Nat} {A : Nat → Prop} {H0 : Heap} {σ : wS} {own : String} {cc : ByteArray} {nL : Nat}
variable {y : MethodName} {bytes : ByteArray} {maxL n index : Nat} {ret : Option FieldType} {rm : Room} {As : List Value} {C : String} {T : u_T} {ci Nf : Nat} {fs : List Value}
/-- a virtual call that only reads; what it says of the state -/
theorem w_runVS (X : wX p s m args c cc nL own g) (I : wI g α N A H0 H locs σ) {Qc : Array Value → State → Outcome → State → Prop} (i : Nat) (hi : i < N) (he : wc g α i (σ.1 i) (σ.2.1 i) (σ.2.2 i) = .inr (ci, fs)) (hc : vwCl[ci]? = some (C, T, Nf)) (hM : Met l y (wM y bytes maxL ret) rm (wPc g α N σ (.ref (α i) :: As)) Qc 0 0 (fun _ => False)) (hG : GoodIn lw_all (wsV own index C y (wM y bytes maxL ret))) (hrc : rm.cells = 0) (hrs : rm.slots = 0)
    (hd : y.cls = C ∧ y.cls ≠ "java/lang/invoke/MethodHandle" ∧ y.cls ≠ "java/lang/invoke/VarHandle" ∧ (parseMethodDescriptor y.desc).map (fun d => d.parameters.length) = some As.length) (hR : rm.frames + 1 ≤ R.frames ∧ 8 + (maxL + 11) + rm.locals ≤ R.locals) (hls : ls.size = nL) (hst : st0 = As.reverse ++ .ref (α i) :: rest) (hW : (rest.map fun v => v.category).sum ≤ 8) (hcs : cells ≤ R.cells ∧ slots ≤ R.slots) (hdg : decode cc pc = .ok (.invokevirtual index, 3)) :
    CallRun p l e R s m args below meth c H locs cells slots 0 0 (F0 m pc ls st0) rest (Qc (Value.ref (α i) :: As).toArray) (fun _ => False) :=
  va_Run.run (va_runV (g := F0 m pc ls st0) X.1 hM (cwV As.length X.1.2.2.2.2 hG rfl hrc hrs hd hR) ⟨wPc_blind, va_recv X.2 I.1 hc ((wld_get hi).trans (by rw [he])), fun U hU hW => ⟨rfl, by rw [hU]; exact I.1, va_K.moved hW.alike X.2, I.2.1.weaken (fun _ _ _ _ => trivial)⟩⟩ rfl rfl hls hst (lv_room hW) hdg hcs)
theorem w_vSi {post : Int32 → Prop} (X : wX p s m args c cc nL own g) (I : wI g α N A H0 H locs σ) (i : Nat) (hi : i < N) (he : wc g α i (σ.1 i) (σ.2.1 i) (σ.2.2 i) = .inr (ci, fs)) (hc : vwCl[ci]? = some (C, T, Nf)) (hM : Met l y (wM y bytes maxL ret) rm (wPc g α N σ (.ref (α i) :: As)) (vp_Si post) 0 0 (fun _ => False)) (hG : GoodIn lw_all (wsV own index C y (wM y bytes maxL ret))) (hrc : rm.cells = 0) (hrs : rm.slots = 0)
    (hd : y.cls = C ∧ y.cls ≠ "java/lang/invoke/MethodHandle" ∧ y.cls ≠ "java/lang/invoke/VarHandle" ∧ (parseMethodDescriptor y.desc).map (fun d => d.parameters.length) = some As.length) (hR : rm.frames + 1 ≤ R.frames ∧ 8 + (maxL + 11) + rm.locals ≤ R.locals) (hls : ls.size = nL) (hst : st0 = As.reverse ++ .ref (α i) :: rest) (hW : (rest.map fun v => v.category).sum ≤ 8) (hcs : cells ≤ R.cells ∧ slots ≤ R.slots) (hdg : decode cc pc = .ok (.invokevirtual index, 3))
    (kk : ∀ r : Int32, post r → W p l e R s m args below meth c H locs cells slots Q (F0 m (pc + 3) ls (.int r :: rest))) : W p l e R s m args below meth c H locs cells slots Q (F0 m pc ls st0) :=
  vp_callSi (w_runVS X I i hi he hc hM hG hrc hrs hd hR hls hst hW hcs hdg) kk
theorem w_vSq {post : Option Nat → Prop} (X : wX p s m args c cc nL own g) (I : wI g α N A H0 H locs σ) (i : Nat) (hi : i < N) (he : wc g α i (σ.1 i) (σ.2.1 i) (σ.2.2 i) = .inr (ci, fs)) (hc : vwCl[ci]? = some (C, T, Nf)) (hM : Met l y (wM y bytes maxL ret) rm (wPc g α N σ (.ref (α i) :: As)) (va_Sq post) 0 0 (fun _ => False)) (hG : GoodIn lw_all (wsV own index C y (wM y bytes maxL ret))) (hrc : rm.cells = 0) (hrs : rm.slots = 0)
    (hd : y.cls = C ∧ y.cls ≠ "java/lang/invoke/MethodHandle" ∧ y.cls ≠ "java/lang/invoke/VarHandle" ∧ (parseMethodDescriptor y.desc).map (fun d => d.parameters.length) = some As.length) (hR : rm.frames + 1 ≤ R.frames ∧ 8 + (maxL + 11) + rm.locals ≤ R.locals) (hls : ls.size = nL) (hst : st0 = As.reverse ++ .ref (α i) :: rest) (hW : (rest.map fun v => v.category).sum ≤ 8) (hcs : cells ≤ R.cells ∧ slots ≤ R.slots) (hdg : decode cc pc = .ok (.invokevirtual index, 3))
    (kk : ∀ r : Option Nat, post r → W p l e R s m args below meth c H locs cells slots Q (F0 m (pc + 3) ls (va_rf r :: rest))) : W p l e R s m args below meth c H locs cells slots Q (F0 m pc ls st0) :=
  va_csq (w_runVS X I i hi he hc hM hG hrc hrs hd hR hls hst hW hcs hdg) kk
/-- a static call that only reads -/
theorem w_sSi {post : Int32 → Prop} (X : wX p s m args c cc nL own g) (I : wI g α N A H0 H locs σ) (hM : Met l y (wM y bytes maxL ret) rm (wPc g α N σ As) (vp_Si post) 0 0 (fun _ => False)) (hG : GoodIn lw_all (va_wsS own index y (wM y bytes maxL ret))) (hrc : rm.cells = 0) (hrs : rm.slots = 0)
    (hd : y.cls ≠ "java/lang/invoke/MethodHandle" ∧ y.cls ≠ "java/lang/invoke/VarHandle" ∧ (parseMethodDescriptor y.desc).map (fun d => d.parameters.length) = some As.length) (hR : rm.frames + 1 ≤ R.frames ∧ 8 + (maxL + 11) + rm.locals ≤ R.locals) (hls : ls.size = nL) (hst : st0 = As.reverse ++ rest) (hW : (rest.map fun v => v.category).sum ≤ 8) (hcs : cells ≤ R.cells ∧ slots ≤ R.slots) (hdg : decode cc pc = .ok (.invokestatic index, 3))
    (kk : ∀ r : Int32, post r → W p l e R s m args below meth c H locs cells slots Q (F0 m (pc + 3) ls (.int r :: rest))) : W p l e R s m args below meth c H locs cells slots Q (F0 m pc ls st0) :=
  vp_callSi (va_Run.run (va_runS (g := F0 m pc ls st0) X.1 hM (va_cwS As.length X.1.2.2.2.2 hG rfl hrc hrs hd hR) ⟨wPc_blind, fun U hU hW => ⟨rfl, by rw [hU]; exact I.1, va_K.moved hW.alike X.2, I.2.1.weaken (fun _ _ _ _ => trivial)⟩⟩ rfl rfl hls hst (lv_room hW) hdg hcs)) kk
theorem w_runV (X : wX p s m args c cc nL own g) (I : wI g α N A H0 H locs σ) {Qc : Array Value → State → Outcome → State → Prop} (i : Nat) (hi : i < N) (he : wc g α i (σ.1 i) (σ.2.1 i) (σ.2.2 i) = .inr (ci, fs)) (hc : vwCl[ci]? = some (C, T, Nf)) (hM : Met l y (wM y bytes maxL ret) rm (wPs g α N H.size σ (.ref (α i) :: As)) Qc 0 0 (wA α N H.size)) (hG : GoodIn lw_all (wsV own index C y (wM y bytes maxL ret))) (hrc : rm.cells = 0) (hrs : rm.slots = 0)
    (hd : y.cls = C ∧ y.cls ≠ "java/lang/invoke/MethodHandle" ∧ y.cls ≠ "java/lang/invoke/VarHandle" ∧ (parseMethodDescriptor y.desc).map (fun d => d.parameters.length) = some As.length) (hR : rm.frames + 1 ≤ R.frames ∧ 8 + (maxL + 11) + rm.locals ≤ R.locals) (hls : ls.size = nL) (hst : st0 = As.reverse ++ .ref (α i) :: rest) (hW : (rest.map fun v => v.category).sum ≤ 8) (hcs : cells ≤ R.cells ∧ slots ≤ R.slots) (hdg : decode cc pc = .ok (.invokevirtual index, 3)) :
    va_Run p l e R s m args below meth c H locs cells slots 0 0 (F0 m pc ls st0) rest (Qc (Value.ref (α i) :: As).toArray) (wA α N H.size) :=
  va_runV (g := F0 m pc ls st0) X.1 hM (cwV As.length X.1.2.2.2.2 hG rfl hrc hrs hd hR) ⟨wPs_blind, va_recv X.2 I.1 hc ((wld_get hi).trans (by rw [he])), fun U hU hW => ⟨rfl, by rw [hU], by rw [hU]; exact I.1, va_K.moved hW.alike X.2, I.2.1.weaken (fun _ _ _ _ => trivial)⟩⟩ rfl rfl hls hst (lv_room hW) hdg hcs
/-- the callee's cells are the caller's -/
theorem wA_in (I : wI g α N A H0 H locs σ) (hA : ∀ q, H0.size ≤ q → A q) (q : Nat) (h : wA α N H.size q) : A q := by
  rcases h with ⟨i, hi, rfl⟩ | h
  · exact I.2.1.2 i _ (wld_get hi)
  · exact hA q (Nat.le_trans I.2.2.1 h)
theorem wD_same {σ' : wS} (h : va_D A (wld g α σ N)) : va_D A (wld g α σ' N) := by
  have key : ∀ (k : Nat) (q : Nat × va_E), (wld g α σ' N)[k]? = some q → ∃ q0, (wld g α σ N)[k]? = some q0 ∧ q0.1 = q.1 := by
    intro k q hk
    have hkN : k < N := by
      have := (List.getElem?_eq_some_iff.mp hk).1
      simpa [wld] using this
    rw [wld_get hkN] at hk
    cases hk
    exact ⟨_, wld_get hkN, rfl⟩
  refine ⟨fun i j x y hi hj hxy => ?_, fun k q hk => ?_⟩
  · obtain ⟨x0, h1, h2⟩ := key i x hi
    obtain ⟨y0, h3, h4⟩ := key j y hj
    exact h.1 i j x0 y0 h1 h3 (h2.trans (hxy.trans h4.symm))
  · obtain ⟨q0, h1, h2⟩ := key k q hk
    rw [← h2]
    exact h.2 k q0 h1
theorem w_vi {post : Int32 → wS → Prop} (X : wX p s m args c cc nL own g) (I : wI g α N A H0 H locs σ) (hA : ∀ q, H0.size ≤ q → A q) (i : Nat) (hi : i < N) (he : wc g α i (σ.1 i) (σ.2.1 i) (σ.2.2 i) = .inr (ci, fs)) (hc : vwCl[ci]? = some (C, T, Nf)) (hM : Met l y (wM y bytes maxL ret) rm (wPs g α N H.size σ (.ref (α i) :: As)) (va_Qi post (wB g α N) (wA α N H.size)) 0 0 (wA α N H.size)) (hG : GoodIn lw_all (wsV own index C y (wM y bytes maxL ret))) (hrc : rm.cells = 0) (hrs : rm.slots = 0)
    (hd : y.cls = C ∧ y.cls ≠ "java/lang/invoke/MethodHandle" ∧ y.cls ≠ "java/lang/invoke/VarHandle" ∧ (parseMethodDescriptor y.desc).map (fun d => d.parameters.length) = some As.length) (hR : rm.frames + 1 ≤ R.frames ∧ 8 + (maxL + 11) + rm.locals ≤ R.locals) (hls : ls.size = nL) (hst : st0 = As.reverse ++ .ref (α i) :: rest) (hW : (rest.map fun v => v.category).sum ≤ 8) (hcs : cells ≤ R.cells ∧ slots ≤ R.slots) (hdg : decode cc pc = .ok (.invokevirtual index, 3))
    (kk : ∀ (r : Int32) (σ' : wS) (H1 : Heap) (locs1 : List Loc), post r σ' → wI g α N A H0 H1 locs1 σ' → W p l e R s m args below meth c H1 locs1 cells slots Q (F0 m (pc + 3) ls (.int r :: rest))) : W p l e R s m args below meth c H locs cells slots Q (F0 m pc ls st0) :=
  va_calli (w_runV X I i hi he hc hM hG hrc hrs hd hR hls hst hW hcs hdg) I.2.2 (fun q _ h => wA_in I hA q h) (fun q h => wA_in I hA q h) (fun r u t H1 locs1 ht _ hp hB _ _ hS => kk r u H1 locs1 hp ⟨by rw [← ht]; exact hB, wD_same I.2.1, hS⟩)
theorem w_vl {post : Int64 → wS → Prop} (X : wX p s m args c cc nL own g) (I : wI g α N A H0 H locs σ) (hA : ∀ q, H0.size ≤ q → A q) (i : Nat) (hi : i < N) (he : wc g α i (σ.1 i) (σ.2.1 i) (σ.2.2 i) = .inr (ci, fs)) (hc : vwCl[ci]? = some (C, T, Nf)) (hM : Met l y (wM y bytes maxL ret) rm (wPs g α N H.size σ (.ref (α i) :: As)) (va_Ql post (wB g α N) (wA α N H.size)) 0 0 (wA α N H.size)) (hG : GoodIn lw_all (wsV own index C y (wM y bytes maxL ret))) (hrc : rm.cells = 0) (hrs : rm.slots = 0)
    (hd : y.cls = C ∧ y.cls ≠ "java/lang/invoke/MethodHandle" ∧ y.cls ≠ "java/lang/invoke/VarHandle" ∧ (parseMethodDescriptor y.desc).map (fun d => d.parameters.length) = some As.length) (hR : rm.frames + 1 ≤ R.frames ∧ 8 + (maxL + 11) + rm.locals ≤ R.locals) (hls : ls.size = nL) (hst : st0 = As.reverse ++ .ref (α i) :: rest) (hW : (rest.map fun v => v.category).sum ≤ 8) (hcs : cells ≤ R.cells ∧ slots ≤ R.slots) (hdg : decode cc pc = .ok (.invokevirtual index, 3))
    (kk : ∀ (r : Int64) (σ' : wS) (H1 : Heap) (locs1 : List Loc), post r σ' → wI g α N A H0 H1 locs1 σ' → W p l e R s m args below meth c H1 locs1 cells slots Q (F0 m (pc + 3) ls (.long r :: rest))) : W p l e R s m args below meth c H locs cells slots Q (F0 m pc ls st0) :=
  va_calll (w_runV X I i hi he hc hM hG hrc hrs hd hR hls hst hW hcs hdg) I.2.2 (fun q _ h => wA_in I hA q h) (fun q h => wA_in I hA q h) (fun r u t H1 locs1 ht _ hp hB _ _ hS => kk r u H1 locs1 hp ⟨by rw [← ht]; exact hB, wD_same I.2.1, hS⟩)
theorem w_vv {post : wS → Prop} (X : wX p s m args c cc nL own g) (I : wI g α N A H0 H locs σ) (hA : ∀ q, H0.size ≤ q → A q) (i : Nat) (hi : i < N) (he : wc g α i (σ.1 i) (σ.2.1 i) (σ.2.2 i) = .inr (ci, fs)) (hc : vwCl[ci]? = some (C, T, Nf)) (hM : Met l y (wM y bytes maxL ret) rm (wPs g α N H.size σ (.ref (α i) :: As)) (va_Qv post (wB g α N) (wA α N H.size)) 0 0 (wA α N H.size)) (hG : GoodIn lw_all (wsV own index C y (wM y bytes maxL ret))) (hrc : rm.cells = 0) (hrs : rm.slots = 0)
    (hd : y.cls = C ∧ y.cls ≠ "java/lang/invoke/MethodHandle" ∧ y.cls ≠ "java/lang/invoke/VarHandle" ∧ (parseMethodDescriptor y.desc).map (fun d => d.parameters.length) = some As.length) (hR : rm.frames + 1 ≤ R.frames ∧ 8 + (maxL + 11) + rm.locals ≤ R.locals) (hls : ls.size = nL) (hst : st0 = As.reverse ++ .ref (α i) :: rest) (hW : (rest.map fun v => v.category).sum ≤ 8) (hcs : cells ≤ R.cells ∧ slots ≤ R.slots) (hdg : decode cc pc = .ok (.invokevirtual index, 3))
    (kk : ∀ (σ' : wS) (H1 : Heap) (locs1 : List Loc), post σ' → wI g α N A H0 H1 locs1 σ' → W p l e R s m args below meth c H1 locs1 cells slots Q (F0 m (pc + 3) ls rest)) : W p l e R s m args below meth c H locs cells slots Q (F0 m pc ls st0) :=
  va_callv (w_runV X I i hi he hc hM hG hrc hrs hd hR hls hst hW hcs hdg) I.2.2 (fun q _ h => wA_in I hA q h) (fun q h => wA_in I hA q h) (fun u t H1 locs1 ht _ hp hB _ _ hS => kk u H1 locs1 hp ⟨by rw [← ht]; exact hB, wD_same I.2.1, hS⟩)
end WCALL
end
section
/-! one row for each field: what getfield gives, what putfield does -/
section WF
variable {p : Program} {l : Launch} {e : Env} {R : Room} {s : State} {m : MethodId} {args : Array Value} {below : List Frame} {meth : Method} {c : Code} {H : Heap} {locs : List Loc} {cells slots : Nat} {Q : State → Prop}
variable {pc : Nat} {ls : Array Slot} {rest : List Value} {g : wG} {α : Nat → Nat} {N : Nat} {A : Nat → Prop} {H0 : Heap} {σ : wS} {own : String} {cc : ByteArray} {nL index : Nat}
theorem fg0_0 (X : wX p s m args c cc nL own g) (I : wI g α N A H0 H locs σ) (hN : 7 < N) (hl : Cond.fieldLink own index "RockRoad$Draft" "bytes" "[I" ∈ lw_all) (hdg : decode cc pc = .ok (.getfield index, 3)) (kk : W p l e R s m args below meth c H locs cells slots Q (F0 m (pc + 3) ls (.ref (α 8) :: rest))) : W p l e R s m args below meth c H locs cells slots Q (F0 m pc ls (.ref (α 7) :: rest)) :=
  w_get X I 7 hN (ci := 0) (k := 0) rfl rfl inX0 (by decide) hl rfl hdg kk
theorem fg0_1 (X : wX p s m args c cc nL own g) (I : wI g α N A H0 H locs σ) (hN : 7 < N) (hl : Cond.fieldLink own index "RockRoad$Draft" "terms" "[I" ∈ lw_all) (hdg : decode cc pc = .ok (.getfield index, 3)) (kk : W p l e R s m args below meth c H locs cells slots Q (F0 m (pc + 3) ls (.ref (α 9) :: rest))) : W p l e R s m args below meth c H locs cells slots Q (F0 m pc ls (.ref (α 7) :: rest)) :=
  w_get X I 7 hN (ci := 0) (k := 1) rfl rfl inX0 (by decide) hl rfl hdg kk
theorem fg0_2 (X : wX p s m args c cc nL own g) (I : wI g α N A H0 H locs σ) (hN : 7 < N) (hl : Cond.fieldLink own index "RockRoad$Draft" "length" "I" ∈ lw_all) (hdg : decode cc pc = .ok (.getfield index, 3)) (kk : W p l e R s m args below meth c H locs cells slots Q (F0 m (pc + 3) ls (.int (σ.1 7 2) :: rest))) : W p l e R s m args below meth c H locs cells slots Q (F0 m pc ls (.ref (α 7) :: rest)) :=
  w_get X I 7 hN (ci := 0) (k := 2) rfl rfl inX0 (by decide) hl rfl hdg kk
theorem fp0_2 (X : wX p s m args c cc nL own g) (I : wI g α N A H0 H locs σ) (hN : 7 < N) (hl : Cond.fieldLink own index "RockRoad$Draft" "length" "I" ∈ lw_all) {x : Int32} (hdg : decode cc pc = .ok (.putfield index, 3)) (kk : ∀ (H1 : Heap) (locs1 : List Loc), wI g α N A H0 H1 locs1 (wu σ 7 2 x) → W p l e R s m args below meth c H1 locs1 cells slots Q (F0 m (pc + 3) ls rest)) : W p l e R s m args below meth c H locs cells slots Q (F0 m pc ls (.int x :: .ref (α 7) :: rest)) :=
  w_put X I 7 hN (ci := 0) (k := 2) rfl rfl rfl inX0 tyX0 tyX0_ok nmX0 (by decide) hl rfl (by decide +kernel) (Nat.le_of_ble_eq_true rfl) hdg kk
theorem fg1_0 (X : wX p s m args c cc nL own g) (I : wI g α N A H0 H locs σ) (hN : 2 < N) (hl : Cond.fieldLink own index "RockRoad$Layers" "tons" "[I" ∈ lw_all) (hdg : decode cc pc = .ok (.getfield index, 3)) (kk : W p l e R s m args below meth c H locs cells slots Q (F0 m (pc + 3) ls (.ref (α 3) :: rest))) : W p l e R s m args below meth c H locs cells slots Q (F0 m pc ls (.ref (α 2) :: rest)) :=
  w_get X I 2 hN (ci := 1) (k := 0) rfl rfl inX1 (by decide) hl rfl hdg kk
theorem fg1_1 (X : wX p s m args c cc nL own g) (I : wI g α N A H0 H locs σ) (hN : 2 < N) (hl : Cond.fieldLink own index "RockRoad$Layers" "worths" "[I" ∈ lw_all) (hdg : decode cc pc = .ok (.getfield index, 3)) (kk : W p l e R s m args below meth c H locs cells slots Q (F0 m (pc + 3) ls (.ref (α 4) :: rest))) : W p l e R s m args below meth c H locs cells slots Q (F0 m pc ls (.ref (α 2) :: rest)) :=
  w_get X I 2 hN (ci := 1) (k := 1) rfl rfl inX1 (by decide) hl rfl hdg kk
theorem fg1_2 (X : wX p s m args c cc nL own g) (I : wI g α N A H0 H locs σ) (hN : 2 < N) (hl : Cond.fieldLink own index "RockRoad$Layers" "size" "I" ∈ lw_all) (hdg : decode cc pc = .ok (.getfield index, 3)) (kk : W p l e R s m args below meth c H locs cells slots Q (F0 m (pc + 3) ls (.int (σ.1 2 2) :: rest))) : W p l e R s m args below meth c H locs cells slots Q (F0 m pc ls (.ref (α 2) :: rest)) :=
  w_get X I 2 hN (ci := 1) (k := 2) rfl rfl inX1 (by decide) hl rfl hdg kk
theorem fp1_2 (X : wX p s m args c cc nL own g) (I : wI g α N A H0 H locs σ) (hN : 2 < N) (hl : Cond.fieldLink own index "RockRoad$Layers" "size" "I" ∈ lw_all) {x : Int32} (hdg : decode cc pc = .ok (.putfield index, 3)) (kk : ∀ (H1 : Heap) (locs1 : List Loc), wI g α N A H0 H1 locs1 (wu σ 2 2 x) → W p l e R s m args below meth c H1 locs1 cells slots Q (F0 m (pc + 3) ls rest)) : W p l e R s m args below meth c H locs cells slots Q (F0 m pc ls (.int x :: .ref (α 2) :: rest)) :=
  w_put X I 2 hN (ci := 1) (k := 2) rfl rfl rfl inX1 tyX1 tyX1_ok nmX1 (by decide) hl rfl (by decide +kernel) (Nat.le_of_ble_eq_true rfl) hdg kk
theorem fg2_0 (X : wX p s m args c cc nL own g) (I : wI g α N A H0 H locs σ) (hN : 10 < N) (hl : Cond.fieldLink own index "RockRoad$Letters" "queues" "[I" ∈ lw_all) (hdg : decode cc pc = .ok (.getfield index, 3)) (kk : W p l e R s m args below meth c H locs cells slots Q (F0 m (pc + 3) ls (.ref (α 11) :: rest))) : W p l e R s m args below meth c H locs cells slots Q (F0 m pc ls (.ref (α 10) :: rest)) :=
  w_get X I 10 hN (ci := 2) (k := 0) rfl rfl inX2 (by decide) hl rfl hdg kk
theorem fg2_1 (X : wX p s m args c cc nL own g) (I : wI g α N A H0 H locs σ) (hN : 10 < N) (hl : Cond.fieldLink own index "RockRoad$Letters" "dug" "[I" ∈ lw_all) (hdg : decode cc pc = .ok (.getfield index, 3)) (kk : W p l e R s m args below meth c H locs cells slots Q (F0 m (pc + 3) ls (.ref (α 12) :: rest))) : W p l e R s m args below meth c H locs cells slots Q (F0 m pc ls (.ref (α 10) :: rest)) :=
  w_get X I 10 hN (ci := 2) (k := 1) rfl rfl inX2 (by decide) hl rfl hdg kk
theorem fg2_2 (X : wX p s m args c cc nL own g) (I : wI g α N A H0 H locs σ) (hN : 10 < N) (hl : Cond.fieldLink own index "RockRoad$Letters" "comings" "[I" ∈ lw_all) (hdg : decode cc pc = .ok (.getfield index, 3)) (kk : W p l e R s m args below meth c H locs cells slots Q (F0 m (pc + 3) ls (.ref (α 13) :: rest))) : W p l e R s m args below meth c H locs cells slots Q (F0 m pc ls (.ref (α 10) :: rest)) :=
  w_get X I 10 hN (ci := 2) (k := 2) rfl rfl inX2 (by decide) hl rfl hdg kk
theorem fg3_0 (X : wX p s m args c cc nL own g) (I : wI g α N A H0 H locs σ) (i : Nat) (hN : (32 + 4 * i) < N) (hl : Cond.fieldLink own index "RockRoad$Ship" "number" "I" ∈ lw_all) (hdg : decode cc pc = .ok (.getfield index, 3)) (kk : W p l e R s m args below meth c H locs cells slots Q (F0 m (pc + 3) ls (.int (σ.1 (32 + 4 * i) 0) :: rest))) : W p l e R s m args below meth c H locs cells slots Q (F0 m pc ls (.ref (α (32 + 4 * i)) :: rest)) :=
  w_get X I (32 + 4 * i) hN (ci := 3) (k := 0) (wc_ship g α i _ _ _) rfl inX3 (by decide) hl rfl hdg kk
theorem fg3_1 (X : wX p s m args c cc nL own g) (I : wI g α N A H0 H locs σ) (i : Nat) (hN : (32 + 4 * i) < N) (hl : Cond.fieldLink own index "RockRoad$Ship" "kind" "I" ∈ lw_all) (hdg : decode cc pc = .ok (.getfield index, 3)) (kk : W p l e R s m args below meth c H locs cells slots Q (F0 m (pc + 3) ls (.int (σ.1 (32 + 4 * i) 1) :: rest))) : W p l e R s m args below meth c H locs cells slots Q (F0 m pc ls (.ref (α (32 + 4 * i)) :: rest)) :=
  w_get X I (32 + 4 * i) hN (ci := 3) (k := 1) (wc_ship g α i _ _ _) rfl inX3 (by decide) hl rfl hdg kk
theorem fg3_2 (X : wX p s m args c cc nL own g) (I : wI g α N A H0 H locs σ) (i : Nat) (hN : (32 + 4 * i) < N) (hl : Cond.fieldLink own index "RockRoad$Ship" "arrival" "I" ∈ lw_all) (hdg : decode cc pc = .ok (.getfield index, 3)) (kk : W p l e R s m args below meth c H locs cells slots Q (F0 m (pc + 3) ls (.int (σ.1 (32 + 4 * i) 2) :: rest))) : W p l e R s m args below meth c H locs cells slots Q (F0 m pc ls (.ref (α (32 + 4 * i)) :: rest)) :=
  w_get X I (32 + 4 * i) hN (ci := 3) (k := 2) (wc_ship g α i _ _ _) rfl inX3 (by decide) hl rfl hdg kk
theorem fg3_3 (X : wX p s m args c cc nL own g) (I : wI g α N A H0 H locs σ) (i : Nat) (hN : (32 + 4 * i) < N) (hl : Cond.fieldLink own index "RockRoad$Ship" "cargo" "[I" ∈ lw_all) (hdg : decode cc pc = .ok (.getfield index, 3)) (kk : W p l e R s m args below meth c H locs cells slots Q (F0 m (pc + 3) ls (.ref (α (33 + 4 * i)) :: rest))) : W p l e R s m args below meth c H locs cells slots Q (F0 m pc ls (.ref (α (32 + 4 * i)) :: rest)) :=
  w_get X I (32 + 4 * i) hN (ci := 3) (k := 3) (wc_ship g α i _ _ _) rfl inX3 (by decide) hl rfl hdg kk
theorem fg3_4 (X : wX p s m args c cc nL own g) (I : wI g α N A H0 H locs σ) (i : Nat) (hN : (32 + 4 * i) < N) (hl : Cond.fieldLink own index "RockRoad$Ship" "terms" "[I" ∈ lw_all) (hdg : decode cc pc = .ok (.getfield index, 3)) (kk : W p l e R s m args below meth c H locs cells slots Q (F0 m (pc + 3) ls (.ref (α (34 + 4 * i)) :: rest))) : W p l e R s m args below meth c H locs cells slots Q (F0 m pc ls (.ref (α (32 + 4 * i)) :: rest)) :=
  w_get X I (32 + 4 * i) hN (ci := 3) (k := 4) (wc_ship g α i _ _ _) rfl inX3 (by decide) hl rfl hdg kk
theorem fg3_5 (X : wX p s m args c cc nL own g) (I : wI g α N A H0 H locs σ) (i : Nat) (hN : (32 + 4 * i) < N) (hl : Cond.fieldLink own index "RockRoad$Ship" "log" "[I" ∈ lw_all) (hdg : decode cc pc = .ok (.getfield index, 3)) (kk : W p l e R s m args below meth c H locs cells slots Q (F0 m (pc + 3) ls (.ref (α (35 + 4 * i)) :: rest))) : W p l e R s m args below meth c H locs cells slots Q (F0 m pc ls (.ref (α (32 + 4 * i)) :: rest)) :=
  w_get X I (32 + 4 * i) hN (ci := 3) (k := 5) (wc_ship g α i _ _ _) rfl inX3 (by decide) hl rfl hdg kk
theorem fg3_6 (X : wX p s m args c cc nL own g) (I : wI g α N A H0 H locs σ) (i : Nat) (hN : (32 + 4 * i) < N) (hl : Cond.fieldLink own index "RockRoad$Ship" "wants" "I" ∈ lw_all) (hdg : decode cc pc = .ok (.getfield index, 3)) (kk : W p l e R s m args below meth c H locs cells slots Q (F0 m (pc + 3) ls (.int (σ.1 (32 + 4 * i) 6) :: rest))) : W p l e R s m args below meth c H locs cells slots Q (F0 m pc ls (.ref (α (32 + 4 * i)) :: rest)) :=
  w_get X I (32 + 4 * i) hN (ci := 3) (k := 6) (wc_ship g α i _ _ _) rfl inX3 (by decide) hl rfl hdg kk
theorem fp3_6 (X : wX p s m args c cc nL own g) (I : wI g α N A H0 H locs σ) (i : Nat) (hN : (32 + 4 * i) < N) (hl : Cond.fieldLink own index "RockRoad$Ship" "wants" "I" ∈ lw_all) {x : Int32} (hdg : decode cc pc = .ok (.putfield index, 3)) (kk : ∀ (H1 : Heap) (locs1 : List Loc), wI g α N A H0 H1 locs1 (wu σ (32 + 4 * i) 6 x) → W p l e R s m args below meth c H1 locs1 cells slots Q (F0 m (pc + 3) ls rest)) : W p l e R s m args below meth c H locs cells slots Q (F0 m pc ls (.int x :: .ref (α (32 + 4 * i)) :: rest)) :=
  w_put X I (32 + 4 * i) hN (ci := 3) (k := 6) (wc_ship g α i _ _ _) ((wc_ship g α i _ _ _).trans rfl) rfl inX3 tyX3 tyX3_ok nmX3 (by decide) hl rfl (by decide +kernel) (Nat.le_of_ble_eq_true rfl) hdg kk
theorem fg3_7 (X : wX p s m args c cc nL own g) (I : wI g α N A H0 H locs σ) (i : Nat) (hN : (32 + 4 * i) < N) (hl : Cond.fieldLink own index "RockRoad$Ship" "has" "I" ∈ lw_all) (hdg : decode cc pc = .ok (.getfield index, 3)) (kk : W p l e R s m args below meth c H locs cells slots Q (F0 m (pc + 3) ls (.int (σ.1 (32 + 4 * i) 7) :: rest))) : W p l e R s m args below meth c H locs cells slots Q (F0 m pc ls (.ref (α (32 + 4 * i)) :: rest)) :=
  w_get X I (32 + 4 * i) hN (ci := 3) (k := 7) (wc_ship g α i _ _ _) rfl inX3 (by decide) hl rfl hdg kk
theorem fp3_7 (X : wX p s m args c cc nL own g) (I : wI g α N A H0 H locs σ) (i : Nat) (hN : (32 + 4 * i) < N) (hl : Cond.fieldLink own index "RockRoad$Ship" "has" "I" ∈ lw_all) {x : Int32} (hdg : decode cc pc = .ok (.putfield index, 3)) (kk : ∀ (H1 : Heap) (locs1 : List Loc), wI g α N A H0 H1 locs1 (wu σ (32 + 4 * i) 7 x) → W p l e R s m args below meth c H1 locs1 cells slots Q (F0 m (pc + 3) ls rest)) : W p l e R s m args below meth c H locs cells slots Q (F0 m pc ls (.int x :: .ref (α (32 + 4 * i)) :: rest)) :=
  w_put X I (32 + 4 * i) hN (ci := 3) (k := 7) (wc_ship g α i _ _ _) ((wc_ship g α i _ _ _).trans rfl) rfl inX3 tyX3 tyX3_ok nmX3 (by decide) hl rfl (by decide +kernel) (Nat.le_of_ble_eq_true rfl) hdg kk
theorem fg3_8 (X : wX p s m args c cc nL own g) (I : wI g α N A H0 H locs σ) (i : Nat) (hN : (32 + 4 * i) < N) (hl : Cond.fieldLink own index "RockRoad$Ship" "water" "I" ∈ lw_all) (hdg : decode cc pc = .ok (.getfield index, 3)) (kk : W p l e R s m args below meth c H locs cells slots Q (F0 m (pc + 3) ls (.int (σ.1 (32 + 4 * i) 8) :: rest))) : W p l e R s m args below meth c H locs cells slots Q (F0 m pc ls (.ref (α (32 + 4 * i)) :: rest)) :=
  w_get X I (32 + 4 * i) hN (ci := 3) (k := 8) (wc_ship g α i _ _ _) rfl inX3 (by decide) hl rfl hdg kk
theorem fp3_8 (X : wX p s m args c cc nL own g) (I : wI g α N A H0 H locs σ) (i : Nat) (hN : (32 + 4 * i) < N) (hl : Cond.fieldLink own index "RockRoad$Ship" "water" "I" ∈ lw_all) {x : Int32} (hdg : decode cc pc = .ok (.putfield index, 3)) (kk : ∀ (H1 : Heap) (locs1 : List Loc), wI g α N A H0 H1 locs1 (wu σ (32 + 4 * i) 8 x) → W p l e R s m args below meth c H1 locs1 cells slots Q (F0 m (pc + 3) ls rest)) : W p l e R s m args below meth c H locs cells slots Q (F0 m pc ls (.int x :: .ref (α (32 + 4 * i)) :: rest)) :=
  w_put X I (32 + 4 * i) hN (ci := 3) (k := 8) (wc_ship g α i _ _ _) ((wc_ship g α i _ _ _).trans rfl) rfl inX3 tyX3 tyX3_ok nmX3 (by decide) hl rfl (by decide +kernel) (Nat.le_of_ble_eq_true rfl) hdg kk
theorem fg3_9 (X : wX p s m args c cc nL own g) (I : wI g α N A H0 H locs σ) (i : Nat) (hN : (32 + 4 * i) < N) (hl : Cond.fieldLink own index "RockRoad$Ship" "loadedOn" "I" ∈ lw_all) (hdg : decode cc pc = .ok (.getfield index, 3)) (kk : W p l e R s m args below meth c H locs cells slots Q (F0 m (pc + 3) ls (.int (σ.1 (32 + 4 * i) 9) :: rest))) : W p l e R s m args below meth c H locs cells slots Q (F0 m pc ls (.ref (α (32 + 4 * i)) :: rest)) :=
  w_get X I (32 + 4 * i) hN (ci := 3) (k := 9) (wc_ship g α i _ _ _) rfl inX3 (by decide) hl rfl hdg kk
theorem fp3_9 (X : wX p s m args c cc nL own g) (I : wI g α N A H0 H locs σ) (i : Nat) (hN : (32 + 4 * i) < N) (hl : Cond.fieldLink own index "RockRoad$Ship" "loadedOn" "I" ∈ lw_all) {x : Int32} (hdg : decode cc pc = .ok (.putfield index, 3)) (kk : ∀ (H1 : Heap) (locs1 : List Loc), wI g α N A H0 H1 locs1 (wu σ (32 + 4 * i) 9 x) → W p l e R s m args below meth c H1 locs1 cells slots Q (F0 m (pc + 3) ls rest)) : W p l e R s m args below meth c H locs cells slots Q (F0 m pc ls (.int x :: .ref (α (32 + 4 * i)) :: rest)) :=
  w_put X I (32 + 4 * i) hN (ci := 3) (k := 9) (wc_ship g α i _ _ _) ((wc_ship g α i _ _ _).trans rfl) rfl inX3 tyX3 tyX3_ok nmX3 (by decide) hl rfl (by decide +kernel) (Nat.le_of_ble_eq_true rfl) hdg kk
theorem fg4_0 (X : wX p s m args c cc nL own g) (I : wI g α N A H0 H locs σ) (hN : 0 < N) (hl : Cond.fieldLink own index "RockRoad" "swells" "[I" ∈ lw_all) (hdg : decode cc pc = .ok (.getfield index, 3)) (kk : W p l e R s m args below meth c H locs cells slots Q (F0 m (pc + 3) ls (.ref (α 1) :: rest))) : W p l e R s m args below meth c H locs cells slots Q (F0 m pc ls (.ref (α 0) :: rest)) :=
  w_get X I 0 hN (ci := 4) (k := 0) rfl rfl inX4 (by decide) hl rfl hdg kk
theorem fg4_1 (X : wX p s m args c cc nL own g) (I : wI g α N A H0 H locs σ) (hN : 0 < N) (hl : Cond.fieldLink own index "RockRoad" "layers" "LRockRoad$Layers;" ∈ lw_all) (hdg : decode cc pc = .ok (.getfield index, 3)) (kk : W p l e R s m args below meth c H locs cells slots Q (F0 m (pc + 3) ls (.ref (α 2) :: rest))) : W p l e R s m args below meth c H locs cells slots Q (F0 m pc ls (.ref (α 0) :: rest)) :=
  w_get X I 0 hN (ci := 4) (k := 1) rfl rfl inX4 (by decide) hl rfl hdg kk
theorem fg4_2 (X : wX p s m args c cc nL own g) (I : wI g α N A H0 H locs σ) (hN : 0 < N) (hl : Cond.fieldLink own index "RockRoad" "ships" "[LRockRoad$Ship;" ∈ lw_all) (hdg : decode cc pc = .ok (.getfield index, 3)) (kk : W p l e R s m args below meth c H locs cells slots Q (F0 m (pc + 3) ls (.ref (α 5) :: rest))) : W p l e R s m args below meth c H locs cells slots Q (F0 m pc ls (.ref (α 0) :: rest)) :=
  w_get X I 0 hN (ci := 4) (k := 2) rfl rfl inX4 (by decide) hl rfl hdg kk
theorem fg4_3 (X : wX p s m args c cc nL own g) (I : wI g α N A H0 H locs σ) (hN : 0 < N) (hl : Cond.fieldLink own index "RockRoad" "line" "[LRockRoad$Ship;" ∈ lw_all) (hdg : decode cc pc = .ok (.getfield index, 3)) (kk : W p l e R s m args below meth c H locs cells slots Q (F0 m (pc + 3) ls (.ref (α 6) :: rest))) : W p l e R s m args below meth c H locs cells slots Q (F0 m pc ls (.ref (α 0) :: rest)) :=
  w_get X I 0 hN (ci := 4) (k := 3) rfl rfl inX4 (by decide) hl rfl hdg kk
theorem fg4_4 (X : wX p s m args c cc nL own g) (I : wI g α N A H0 H locs σ) (hN : 0 < N) (hl : Cond.fieldLink own index "RockRoad" "draft" "LRockRoad$Draft;" ∈ lw_all) (hdg : decode cc pc = .ok (.getfield index, 3)) (kk : W p l e R s m args below meth c H locs cells slots Q (F0 m (pc + 3) ls (.ref (α 7) :: rest))) : W p l e R s m args below meth c H locs cells slots Q (F0 m pc ls (.ref (α 0) :: rest)) :=
  w_get X I 0 hN (ci := 4) (k := 4) rfl rfl inX4 (by decide) hl rfl hdg kk
theorem fg4_5 (X : wX p s m args c cc nL own g) (I : wI g α N A H0 H locs σ) (hN : 0 < N) (hl : Cond.fieldLink own index "RockRoad" "letters" "LRockRoad$Letters;" ∈ lw_all) (hdg : decode cc pc = .ok (.getfield index, 3)) (kk : W p l e R s m args below meth c H locs cells slots Q (F0 m (pc + 3) ls (.ref (α 10) :: rest))) : W p l e R s m args below meth c H locs cells slots Q (F0 m pc ls (.ref (α 0) :: rest)) :=
  w_get X I 0 hN (ci := 4) (k := 5) rfl rfl inX4 (by decide) hl rfl hdg kk
theorem fg4_6 (X : wX p s m args c cc nL own g) (I : wI g α N A H0 H locs σ) (hN : 0 < N) (hl : Cond.fieldLink own index "RockRoad" "today" "I" ∈ lw_all) (hdg : decode cc pc = .ok (.getfield index, 3)) (kk : W p l e R s m args below meth c H locs cells slots Q (F0 m (pc + 3) ls (.int (σ.1 0 6) :: rest))) : W p l e R s m args below meth c H locs cells slots Q (F0 m pc ls (.ref (α 0) :: rest)) :=
  w_get X I 0 hN (ci := 4) (k := 6) rfl rfl inX4 (by decide) hl rfl hdg kk
theorem fp4_6 (X : wX p s m args c cc nL own g) (I : wI g α N A H0 H locs σ) (hN : 0 < N) (hl : Cond.fieldLink own index "RockRoad" "today" "I" ∈ lw_all) {x : Int32} (hdg : decode cc pc = .ok (.putfield index, 3)) (kk : ∀ (H1 : Heap) (locs1 : List Loc), wI g α N A H0 H1 locs1 (wu σ 0 6 x) → W p l e R s m args below meth c H1 locs1 cells slots Q (F0 m (pc + 3) ls rest)) : W p l e R s m args below meth c H locs cells slots Q (F0 m pc ls (.int x :: .ref (α 0) :: rest)) :=
  w_put X I 0 hN (ci := 4) (k := 6) rfl rfl rfl inX4 tyX4 tyX4_ok nmX4 (by decide) hl rfl (by decide +kernel) (Nat.le_of_ble_eq_true rfl) hdg kk
theorem fg4_7 (X : wX p s m args c cc nL own g) (I : wI g α N A H0 H locs σ) (hN : 0 < N) (hl : Cond.fieldLink own index "RockRoad" "shipCount" "I" ∈ lw_all) (hdg : decode cc pc = .ok (.getfield index, 3)) (kk : W p l e R s m args below meth c H locs cells slots Q (F0 m (pc + 3) ls (.int (σ.1 0 7) :: rest))) : W p l e R s m args below meth c H locs cells slots Q (F0 m pc ls (.ref (α 0) :: rest)) :=
  w_get X I 0 hN (ci := 4) (k := 7) rfl rfl inX4 (by decide) hl rfl hdg kk
theorem fp4_7 (X : wX p s m args c cc nL own g) (I : wI g α N A H0 H locs σ) (hN : 0 < N) (hl : Cond.fieldLink own index "RockRoad" "shipCount" "I" ∈ lw_all) {x : Int32} (hdg : decode cc pc = .ok (.putfield index, 3)) (kk : ∀ (H1 : Heap) (locs1 : List Loc), wI g α N A H0 H1 locs1 (wu σ 0 7 x) → W p l e R s m args below meth c H1 locs1 cells slots Q (F0 m (pc + 3) ls rest)) : W p l e R s m args below meth c H locs cells slots Q (F0 m pc ls (.int x :: .ref (α 0) :: rest)) :=
  w_put X I 0 hN (ci := 4) (k := 7) rfl rfl rfl inX4 tyX4 tyX4_ok nmX4 (by decide) hl rfl (by decide +kernel) (Nat.le_of_ble_eq_true rfl) hdg kk
theorem fg4_8 (X : wX p s m args c cc nL own g) (I : wI g α N A H0 H locs σ) (hN : 0 < N) (hl : Cond.fieldLink own index "RockRoad" "delay" "I" ∈ lw_all) (hdg : decode cc pc = .ok (.getfield index, 3)) (kk : W p l e R s m args below meth c H locs cells slots Q (F0 m (pc + 3) ls (.int (σ.1 0 8) :: rest))) : W p l e R s m args below meth c H locs cells slots Q (F0 m pc ls (.ref (α 0) :: rest)) :=
  w_get X I 0 hN (ci := 4) (k := 8) rfl rfl inX4 (by decide) hl rfl hdg kk
theorem fp4_8 (X : wX p s m args c cc nL own g) (I : wI g α N A H0 H locs σ) (hN : 0 < N) (hl : Cond.fieldLink own index "RockRoad" "delay" "I" ∈ lw_all) {x : Int32} (hdg : decode cc pc = .ok (.putfield index, 3)) (kk : ∀ (H1 : Heap) (locs1 : List Loc), wI g α N A H0 H1 locs1 (wu σ 0 8 x) → W p l e R s m args below meth c H1 locs1 cells slots Q (F0 m (pc + 3) ls rest)) : W p l e R s m args below meth c H locs cells slots Q (F0 m pc ls (.int x :: .ref (α 0) :: rest)) :=
  w_put X I 0 hN (ci := 4) (k := 8) rfl rfl rfl inX4 tyX4 tyX4_ok nmX4 (by decide) hl rfl (by decide +kernel) (Nat.le_of_ble_eq_true rfl) hdg kk
theorem fg4_9 (X : wX p s m args c cc nL own g) (I : wI g α N A H0 H locs σ) (hN : 0 < N) (hl : Cond.fieldLink own index "RockRoad" "trace" "J" ∈ lw_all) (hdg : decode cc pc = .ok (.getfield index, 3)) (kk : W p l e R s m args below meth c H locs cells slots Q (F0 m (pc + 3) ls (.long (σ.2.1 0) :: rest))) : W p l e R s m args below meth c H locs cells slots Q (F0 m pc ls (.ref (α 0) :: rest)) :=
  w_get X I 0 hN (ci := 4) (k := 9) rfl rfl inX4 (by decide) hl rfl hdg kk
theorem fp4_9 (X : wX p s m args c cc nL own g) (I : wI g α N A H0 H locs σ) (hN : 0 < N) (hl : Cond.fieldLink own index "RockRoad" "trace" "J" ∈ lw_all) {x : Int64} (hdg : decode cc pc = .ok (.putfield index, 3)) (kk : ∀ (H1 : Heap) (locs1 : List Loc), wI g α N A H0 H1 locs1 (wuL σ 0 x) → W p l e R s m args below meth c H1 locs1 cells slots Q (F0 m (pc + 3) ls rest)) : W p l e R s m args below meth c H locs cells slots Q (F0 m pc ls (.long x :: .ref (α 0) :: rest)) :=
  w_putL X I 0 hN (ci := 4) (k := 9) rfl rfl rfl inX4 tyX4 tyX4_ok nmX4 (by decide) hl rfl (by decide +kernel) (Nat.le_of_ble_eq_true rfl) hdg kk
theorem fg5_0 (X : wX p s m args c cc nL own g) (I : wI g α N A H0 H locs σ) (hN : 14 < N) (hl : Cond.fieldLink own index "RockRoadModel" "thrown" "I" ∈ lw_all) (hdg : decode cc pc = .ok (.getfield index, 3)) (kk : W p l e R s m args below meth c H locs cells slots Q (F0 m (pc + 3) ls (.int (σ.1 14 0) :: rest))) : W p l e R s m args below meth c H locs cells slots Q (F0 m pc ls (.ref (α 14) :: rest)) :=
  w_get X I 14 hN (ci := 5) (k := 0) rfl rfl inX5 (by decide) hl rfl hdg kk
theorem fp5_0 (X : wX p s m args c cc nL own g) (I : wI g α N A H0 H locs σ) (hN : 14 < N) (hl : Cond.fieldLink own index "RockRoadModel" "thrown" "I" ∈ lw_all) {x : Int32} (hdg : decode cc pc = .ok (.putfield index, 3)) (kk : ∀ (H1 : Heap) (locs1 : List Loc), wI g α N A H0 H1 locs1 (wu σ 14 0 x) → W p l e R s m args below meth c H1 locs1 cells slots Q (F0 m (pc + 3) ls rest)) : W p l e R s m args below meth c H locs cells slots Q (F0 m pc ls (.int x :: .ref (α 14) :: rest)) :=
  w_put X I 14 hN (ci := 5) (k := 0) rfl rfl rfl inX5 tyX5 tyX5_ok nmX5 (by decide) hl rfl (by decide +kernel) (Nat.le_of_ble_eq_true rfl) hdg kk
theorem fg5_1 (X : wX p s m args c cc nL own g) (I : wI g α N A H0 H locs σ) (hN : 14 < N) (hl : Cond.fieldLink own index "RockRoadModel" "trace" "J" ∈ lw_all) (hdg : decode cc pc = .ok (.getfield index, 3)) (kk : W p l e R s m args below meth c H locs cells slots Q (F0 m (pc + 3) ls (.long (σ.2.1 14) :: rest))) : W p l e R s m args below meth c H locs cells slots Q (F0 m pc ls (.ref (α 14) :: rest)) :=
  w_get X I 14 hN (ci := 5) (k := 1) rfl rfl inX5 (by decide) hl rfl hdg kk
theorem fp5_1 (X : wX p s m args c cc nL own g) (I : wI g α N A H0 H locs σ) (hN : 14 < N) (hl : Cond.fieldLink own index "RockRoadModel" "trace" "J" ∈ lw_all) {x : Int64} (hdg : decode cc pc = .ok (.putfield index, 3)) (kk : ∀ (H1 : Heap) (locs1 : List Loc), wI g α N A H0 H1 locs1 (wuL σ 14 x) → W p l e R s m args below meth c H1 locs1 cells slots Q (F0 m (pc + 3) ls rest)) : W p l e R s m args below meth c H locs cells slots Q (F0 m pc ls (.long x :: .ref (α 14) :: rest)) :=
  w_putL X I 14 hN (ci := 5) (k := 1) rfl rfl rfl inX5 tyX5 tyX5_ok nmX5 (by decide) hl rfl (by decide +kernel) (Nat.le_of_ble_eq_true rfl) hdg kk
theorem fg5_2 (X : wX p s m args c cc nL own g) (I : wI g α N A H0 H locs σ) (hN : 14 < N) (hl : Cond.fieldLink own index "RockRoadModel" "today" "I" ∈ lw_all) (hdg : decode cc pc = .ok (.getfield index, 3)) (kk : W p l e R s m args below meth c H locs cells slots Q (F0 m (pc + 3) ls (.int (σ.1 14 2) :: rest))) : W p l e R s m args below meth c H locs cells slots Q (F0 m pc ls (.ref (α 14) :: rest)) :=
  w_get X I 14 hN (ci := 5) (k := 2) rfl rfl inX5 (by decide) hl rfl hdg kk
theorem fp5_2 (X : wX p s m args c cc nL own g) (I : wI g α N A H0 H locs σ) (hN : 14 < N) (hl : Cond.fieldLink own index "RockRoadModel" "today" "I" ∈ lw_all) {x : Int32} (hdg : decode cc pc = .ok (.putfield index, 3)) (kk : ∀ (H1 : Heap) (locs1 : List Loc), wI g α N A H0 H1 locs1 (wu σ 14 2 x) → W p l e R s m args below meth c H1 locs1 cells slots Q (F0 m (pc + 3) ls rest)) : W p l e R s m args below meth c H locs cells slots Q (F0 m pc ls (.int x :: .ref (α 14) :: rest)) :=
  w_put X I 14 hN (ci := 5) (k := 2) rfl rfl rfl inX5 tyX5 tyX5_ok nmX5 (by decide) hl rfl (by decide +kernel) (Nat.le_of_ble_eq_true rfl) hdg kk
theorem fg5_3 (X : wX p s m args c cc nL own g) (I : wI g α N A H0 H locs σ) (hN : 14 < N) (hl : Cond.fieldLink own index "RockRoadModel" "swell" "[I" ∈ lw_all) (hdg : decode cc pc = .ok (.getfield index, 3)) (kk : W p l e R s m args below meth c H locs cells slots Q (F0 m (pc + 3) ls (.ref (α 15) :: rest))) : W p l e R s m args below meth c H locs cells slots Q (F0 m pc ls (.ref (α 14) :: rest)) :=
  w_get X I 14 hN (ci := 5) (k := 3) rfl rfl inX5 (by decide) hl rfl hdg kk
theorem fg5_4 (X : wX p s m args c cc nL own g) (I : wI g α N A H0 H locs σ) (hN : 14 < N) (hl : Cond.fieldLink own index "RockRoadModel" "layers" "I" ∈ lw_all) (hdg : decode cc pc = .ok (.getfield index, 3)) (kk : W p l e R s m args below meth c H locs cells slots Q (F0 m (pc + 3) ls (.int (σ.1 14 4) :: rest))) : W p l e R s m args below meth c H locs cells slots Q (F0 m pc ls (.ref (α 14) :: rest)) :=
  w_get X I 14 hN (ci := 5) (k := 4) rfl rfl inX5 (by decide) hl rfl hdg kk
theorem fp5_4 (X : wX p s m args c cc nL own g) (I : wI g α N A H0 H locs σ) (hN : 14 < N) (hl : Cond.fieldLink own index "RockRoadModel" "layers" "I" ∈ lw_all) {x : Int32} (hdg : decode cc pc = .ok (.putfield index, 3)) (kk : ∀ (H1 : Heap) (locs1 : List Loc), wI g α N A H0 H1 locs1 (wu σ 14 4 x) → W p l e R s m args below meth c H1 locs1 cells slots Q (F0 m (pc + 3) ls rest)) : W p l e R s m args below meth c H locs cells slots Q (F0 m pc ls (.int x :: .ref (α 14) :: rest)) :=
  w_put X I 14 hN (ci := 5) (k := 4) rfl rfl rfl inX5 tyX5 tyX5_ok nmX5 (by decide) hl rfl (by decide +kernel) (Nat.le_of_ble_eq_true rfl) hdg kk
theorem fg5_5 (X : wX p s m args c cc nL own g) (I : wI g α N A H0 H locs σ) (hN : 14 < N) (hl : Cond.fieldLink own index "RockRoadModel" "tons" "[I" ∈ lw_all) (hdg : decode cc pc = .ok (.getfield index, 3)) (kk : W p l e R s m args below meth c H locs cells slots Q (F0 m (pc + 3) ls (.ref (α 16) :: rest))) : W p l e R s m args below meth c H locs cells slots Q (F0 m pc ls (.ref (α 14) :: rest)) :=
  w_get X I 14 hN (ci := 5) (k := 5) rfl rfl inX5 (by decide) hl rfl hdg kk
theorem fg5_6 (X : wX p s m args c cc nL own g) (I : wI g α N A H0 H locs σ) (hN : 14 < N) (hl : Cond.fieldLink own index "RockRoadModel" "worth" "[I" ∈ lw_all) (hdg : decode cc pc = .ok (.getfield index, 3)) (kk : W p l e R s m args below meth c H locs cells slots Q (F0 m (pc + 3) ls (.ref (α 17) :: rest))) : W p l e R s m args below meth c H locs cells slots Q (F0 m pc ls (.ref (α 14) :: rest)) :=
  w_get X I 14 hN (ci := 5) (k := 6) rfl rfl inX5 (by decide) hl rfl hdg kk
theorem fg5_7 (X : wX p s m args c cc nL own g) (I : wI g α N A H0 H locs σ) (hN : 14 < N) (hl : Cond.fieldLink own index "RockRoadModel" "ships" "I" ∈ lw_all) (hdg : decode cc pc = .ok (.getfield index, 3)) (kk : W p l e R s m args below meth c H locs cells slots Q (F0 m (pc + 3) ls (.int (σ.1 14 7) :: rest))) : W p l e R s m args below meth c H locs cells slots Q (F0 m pc ls (.ref (α 14) :: rest)) :=
  w_get X I 14 hN (ci := 5) (k := 7) rfl rfl inX5 (by decide) hl rfl hdg kk
theorem fp5_7 (X : wX p s m args c cc nL own g) (I : wI g α N A H0 H locs σ) (hN : 14 < N) (hl : Cond.fieldLink own index "RockRoadModel" "ships" "I" ∈ lw_all) {x : Int32} (hdg : decode cc pc = .ok (.putfield index, 3)) (kk : ∀ (H1 : Heap) (locs1 : List Loc), wI g α N A H0 H1 locs1 (wu σ 14 7 x) → W p l e R s m args below meth c H1 locs1 cells slots Q (F0 m (pc + 3) ls rest)) : W p l e R s m args below meth c H locs cells slots Q (F0 m pc ls (.int x :: .ref (α 14) :: rest)) :=
  w_put X I 14 hN (ci := 5) (k := 7) rfl rfl rfl inX5 tyX5 tyX5_ok nmX5 (by decide) hl rfl (by decide +kernel) (Nat.le_of_ble_eq_true rfl) hdg kk
theorem fg5_8 (X : wX p s m args c cc nL own g) (I : wI g α N A H0 H locs σ) (hN : 14 < N) (hl : Cond.fieldLink own index "RockRoadModel" "kind" "[I" ∈ lw_all) (hdg : decode cc pc = .ok (.getfield index, 3)) (kk : W p l e R s m args below meth c H locs cells slots Q (F0 m (pc + 3) ls (.ref (α 18) :: rest))) : W p l e R s m args below meth c H locs cells slots Q (F0 m pc ls (.ref (α 14) :: rest)) :=
  w_get X I 14 hN (ci := 5) (k := 8) rfl rfl inX5 (by decide) hl rfl hdg kk
theorem fg5_9 (X : wX p s m args c cc nL own g) (I : wI g α N A H0 H locs σ) (hN : 14 < N) (hl : Cond.fieldLink own index "RockRoadModel" "came" "[I" ∈ lw_all) (hdg : decode cc pc = .ok (.getfield index, 3)) (kk : W p l e R s m args below meth c H locs cells slots Q (F0 m (pc + 3) ls (.ref (α 19) :: rest))) : W p l e R s m args below meth c H locs cells slots Q (F0 m pc ls (.ref (α 14) :: rest)) :=
  w_get X I 14 hN (ci := 5) (k := 9) rfl rfl inX5 (by decide) hl rfl hdg kk
theorem fg5_10 (X : wX p s m args c cc nL own g) (I : wI g α N A H0 H locs σ) (hN : 14 < N) (hl : Cond.fieldLink own index "RockRoadModel" "wants" "[I" ∈ lw_all) (hdg : decode cc pc = .ok (.getfield index, 3)) (kk : W p l e R s m args below meth c H locs cells slots Q (F0 m (pc + 3) ls (.ref (α 20) :: rest))) : W p l e R s m args below meth c H locs cells slots Q (F0 m pc ls (.ref (α 14) :: rest)) :=
  w_get X I 14 hN (ci := 5) (k := 10) rfl rfl inX5 (by decide) hl rfl hdg kk
theorem fg5_11 (X : wX p s m args c cc nL own g) (I : wI g α N A H0 H locs σ) (hN : 14 < N) (hl : Cond.fieldLink own index "RockRoadModel" "water" "[I" ∈ lw_all) (hdg : decode cc pc = .ok (.getfield index, 3)) (kk : W p l e R s m args below meth c H locs cells slots Q (F0 m (pc + 3) ls (.ref (α 21) :: rest))) : W p l e R s m args below meth c H locs cells slots Q (F0 m pc ls (.ref (α 14) :: rest)) :=
  w_get X I 14 hN (ci := 5) (k := 11) rfl rfl inX5 (by decide) hl rfl hdg kk
theorem fg5_12 (X : wX p s m args c cc nL own g) (I : wI g α N A H0 H locs σ) (hN : 14 < N) (hl : Cond.fieldLink own index "RockRoadModel" "done" "[I" ∈ lw_all) (hdg : decode cc pc = .ok (.getfield index, 3)) (kk : W p l e R s m args below meth c H locs cells slots Q (F0 m (pc + 3) ls (.ref (α 22) :: rest))) : W p l e R s m args below meth c H locs cells slots Q (F0 m pc ls (.ref (α 14) :: rest)) :=
  w_get X I 14 hN (ci := 5) (k := 12) rfl rfl inX5 (by decide) hl rfl hdg kk
theorem fg5_13 (X : wX p s m args c cc nL own g) (I : wI g α N A H0 H locs σ) (hN : 14 < N) (hl : Cond.fieldLink own index "RockRoadModel" "cargo" "[I" ∈ lw_all) (hdg : decode cc pc = .ok (.getfield index, 3)) (kk : W p l e R s m args below meth c H locs cells slots Q (F0 m (pc + 3) ls (.ref (α 23) :: rest))) : W p l e R s m args below meth c H locs cells slots Q (F0 m pc ls (.ref (α 14) :: rest)) :=
  w_get X I 14 hN (ci := 5) (k := 13) rfl rfl inX5 (by decide) hl rfl hdg kk
theorem fg5_14 (X : wX p s m args c cc nL own g) (I : wI g α N A H0 H locs σ) (hN : 14 < N) (hl : Cond.fieldLink own index "RockRoadModel" "took" "[I" ∈ lw_all) (hdg : decode cc pc = .ok (.getfield index, 3)) (kk : W p l e R s m args below meth c H locs cells slots Q (F0 m (pc + 3) ls (.ref (α 24) :: rest))) : W p l e R s m args below meth c H locs cells slots Q (F0 m pc ls (.ref (α 14) :: rest)) :=
  w_get X I 14 hN (ci := 5) (k := 14) rfl rfl inX5 (by decide) hl rfl hdg kk
theorem fg5_15 (X : wX p s m args c cc nL own g) (I : wI g α N A H0 H locs σ) (hN : 14 < N) (hl : Cond.fieldLink own index "RockRoadModel" "queue" "[I" ∈ lw_all) (hdg : decode cc pc = .ok (.getfield index, 3)) (kk : W p l e R s m args below meth c H locs cells slots Q (F0 m (pc + 3) ls (.ref (α 25) :: rest))) : W p l e R s m args below meth c H locs cells slots Q (F0 m pc ls (.ref (α 14) :: rest)) :=
  w_get X I 14 hN (ci := 5) (k := 15) rfl rfl inX5 (by decide) hl rfl hdg kk
theorem fg5_16 (X : wX p s m args c cc nL own g) (I : wI g α N A H0 H locs σ) (hN : 14 < N) (hl : Cond.fieldLink own index "RockRoadModel" "dug" "[I" ∈ lw_all) (hdg : decode cc pc = .ok (.getfield index, 3)) (kk : W p l e R s m args below meth c H locs cells slots Q (F0 m (pc + 3) ls (.ref (α 26) :: rest))) : W p l e R s m args below meth c H locs cells slots Q (F0 m pc ls (.ref (α 14) :: rest)) :=
  w_get X I 14 hN (ci := 5) (k := 16) rfl rfl inX5 (by decide) hl rfl hdg kk
theorem fg5_17 (X : wX p s m args c cc nL own g) (I : wI g α N A H0 H locs σ) (hN : 14 < N) (hl : Cond.fieldLink own index "RockRoadModel" "comes" "[I" ∈ lw_all) (hdg : decode cc pc = .ok (.getfield index, 3)) (kk : W p l e R s m args below meth c H locs cells slots Q (F0 m (pc + 3) ls (.ref (α 27) :: rest))) : W p l e R s m args below meth c H locs cells slots Q (F0 m pc ls (.ref (α 14) :: rest)) :=
  w_get X I 14 hN (ci := 5) (k := 17) rfl rfl inX5 (by decide) hl rfl hdg kk
theorem fg5_18 (X : wX p s m args c cc nL own g) (I : wI g α N A H0 H locs σ) (hN : 14 < N) (hl : Cond.fieldLink own index "RockRoadModel" "delay" "I" ∈ lw_all) (hdg : decode cc pc = .ok (.getfield index, 3)) (kk : W p l e R s m args below meth c H locs cells slots Q (F0 m (pc + 3) ls (.int (σ.1 14 18) :: rest))) : W p l e R s m args below meth c H locs cells slots Q (F0 m pc ls (.ref (α 14) :: rest)) :=
  w_get X I 14 hN (ci := 5) (k := 18) rfl rfl inX5 (by decide) hl rfl hdg kk
theorem fp5_18 (X : wX p s m args c cc nL own g) (I : wI g α N A H0 H locs σ) (hN : 14 < N) (hl : Cond.fieldLink own index "RockRoadModel" "delay" "I" ∈ lw_all) {x : Int32} (hdg : decode cc pc = .ok (.putfield index, 3)) (kk : ∀ (H1 : Heap) (locs1 : List Loc), wI g α N A H0 H1 locs1 (wu σ 14 18 x) → W p l e R s m args below meth c H1 locs1 cells slots Q (F0 m (pc + 3) ls rest)) : W p l e R s m args below meth c H locs cells slots Q (F0 m pc ls (.int x :: .ref (α 14) :: rest)) :=
  w_put X I 14 hN (ci := 5) (k := 18) rfl rfl rfl inX5 tyX5 tyX5_ok nmX5 (by decide) hl rfl (by decide +kernel) (Nat.le_of_ble_eq_true rfl) hdg kk
theorem fg5_19 (X : wX p s m args c cc nL own g) (I : wI g α N A H0 H locs σ) (hN : 14 < N) (hl : Cond.fieldLink own index "RockRoadModel" "dugEver" "I" ∈ lw_all) (hdg : decode cc pc = .ok (.getfield index, 3)) (kk : W p l e R s m args below meth c H locs cells slots Q (F0 m (pc + 3) ls (.int (σ.1 14 19) :: rest))) : W p l e R s m args below meth c H locs cells slots Q (F0 m pc ls (.ref (α 14) :: rest)) :=
  w_get X I 14 hN (ci := 5) (k := 19) rfl rfl inX5 (by decide) hl rfl hdg kk
theorem fp5_19 (X : wX p s m args c cc nL own g) (I : wI g α N A H0 H locs σ) (hN : 14 < N) (hl : Cond.fieldLink own index "RockRoadModel" "dugEver" "I" ∈ lw_all) {x : Int32} (hdg : decode cc pc = .ok (.putfield index, 3)) (kk : ∀ (H1 : Heap) (locs1 : List Loc), wI g α N A H0 H1 locs1 (wu σ 14 19 x) → W p l e R s m args below meth c H1 locs1 cells slots Q (F0 m (pc + 3) ls rest)) : W p l e R s m args below meth c H locs cells slots Q (F0 m pc ls (.int x :: .ref (α 14) :: rest)) :=
  w_put X I 14 hN (ci := 5) (k := 19) rfl rfl rfl inX5 tyX5 tyX5_ok nmX5 (by decide) hl rfl (by decide +kernel) (Nat.le_of_ble_eq_true rfl) hdg kk
theorem fg5_20 (X : wX p s m args c cc nL own g) (I : wI g α N A H0 H locs σ) (hN : 14 < N) (hl : Cond.fieldLink own index "RockRoadModel" "draft" "[I" ∈ lw_all) (hdg : decode cc pc = .ok (.getfield index, 3)) (kk : W p l e R s m args below meth c H locs cells slots Q (F0 m (pc + 3) ls (.ref (α 28) :: rest))) : W p l e R s m args below meth c H locs cells slots Q (F0 m pc ls (.ref (α 14) :: rest)) :=
  w_get X I 14 hN (ci := 5) (k := 20) rfl rfl inX5 (by decide) hl rfl hdg kk
theorem fg5_21 (X : wX p s m args c cc nL own g) (I : wI g α N A H0 H locs σ) (hN : 14 < N) (hl : Cond.fieldLink own index "RockRoadModel" "drafted" "I" ∈ lw_all) (hdg : decode cc pc = .ok (.getfield index, 3)) (kk : W p l e R s m args below meth c H locs cells slots Q (F0 m (pc + 3) ls (.int (σ.1 14 21) :: rest))) : W p l e R s m args below meth c H locs cells slots Q (F0 m pc ls (.ref (α 14) :: rest)) :=
  w_get X I 14 hN (ci := 5) (k := 21) rfl rfl inX5 (by decide) hl rfl hdg kk
theorem fp5_21 (X : wX p s m args c cc nL own g) (I : wI g α N A H0 H locs σ) (hN : 14 < N) (hl : Cond.fieldLink own index "RockRoadModel" "drafted" "I" ∈ lw_all) {x : Int32} (hdg : decode cc pc = .ok (.putfield index, 3)) (kk : ∀ (H1 : Heap) (locs1 : List Loc), wI g α N A H0 H1 locs1 (wu σ 14 21 x) → W p l e R s m args below meth c H1 locs1 cells slots Q (F0 m (pc + 3) ls rest)) : W p l e R s m args below meth c H locs cells slots Q (F0 m pc ls (.int x :: .ref (α 14) :: rest)) :=
  w_put X I 14 hN (ci := 5) (k := 21) rfl rfl rfl inX5 tyX5 tyX5_ok nmX5 (by decide) hl rfl (by decide +kernel) (Nat.le_of_ble_eq_true rfl) hdg kk
theorem fg5_22 (X : wX p s m args c cc nL own g) (I : wI g α N A H0 H locs σ) (hN : 14 < N) (hl : Cond.fieldLink own index "RockRoadModel" "terms" "[I" ∈ lw_all) (hdg : decode cc pc = .ok (.getfield index, 3)) (kk : W p l e R s m args below meth c H locs cells slots Q (F0 m (pc + 3) ls (.ref (α 29) :: rest))) : W p l e R s m args below meth c H locs cells slots Q (F0 m pc ls (.ref (α 14) :: rest)) :=
  w_get X I 14 hN (ci := 5) (k := 22) rfl rfl inX5 (by decide) hl rfl hdg kk
theorem fg5_23 (X : wX p s m args c cc nL own g) (I : wI g α N A H0 H locs σ) (hN : 14 < N) (hl : Cond.fieldLink own index "RockRoadModel" "read" "[I" ∈ lw_all) (hdg : decode cc pc = .ok (.getfield index, 3)) (kk : W p l e R s m args below meth c H locs cells slots Q (F0 m (pc + 3) ls (.ref (α 30) :: rest))) : W p l e R s m args below meth c H locs cells slots Q (F0 m pc ls (.ref (α 14) :: rest)) :=
  w_get X I 14 hN (ci := 5) (k := 23) rfl rfl inX5 (by decide) hl rfl hdg kk
theorem fg5_24 (X : wX p s m args c cc nL own g) (I : wI g α N A H0 H locs σ) (hN : 14 < N) (hl : Cond.fieldLink own index "RockRoadModel" "isMet" "[Z" ∈ lw_all) (hdg : decode cc pc = .ok (.getfield index, 3)) (kk : W p l e R s m args below meth c H locs cells slots Q (F0 m (pc + 3) ls (.ref (α 31) :: rest))) : W p l e R s m args below meth c H locs cells slots Q (F0 m pc ls (.ref (α 14) :: rest)) :=
  w_get X I 14 hN (ci := 5) (k := 24) rfl rfl inX5 (by decide) hl rfl hdg kk
end WF
end
