section
-- ===== PART A: goes FIRST, ahead of the names: the tables' words, and 'selects' of the private methods out of them =====
/-- a private method of a class that the tables say can be made, by its rows of tables_1 -/
def lw_okq (q : MethodName × Nat) : Prop := (q.1.cls ≠ "java/lang/invoke/MethodHandle" ∧ q.1.cls ≠ "java/lang/invoke/VarHandle") ∧ Cond.instantiable q.1.cls q.2 ∈ tables_1 ∧ Cond.privateMethod q.1 ∈ tables_1 ∧ Cond.instanceMethod q.1 ∈ tables_1
theorem lw_p0 : lw_okq (⟨"PaidInLight", "refuse", "(I)I"⟩, 10) := ⟨⟨by decide +kernel, by decide +kernel⟩, List.mem_of_getElem? (i := 16) (by decide +kernel), List.mem_of_getElem? (i := 234) (by decide +kernel), List.mem_of_getElem? (i := 235) (by decide +kernel)⟩
theorem lw_p1 : lw_okq (⟨"PaidInLight", "readNight", "()I"⟩, 10) := ⟨⟨by decide +kernel, by decide +kernel⟩, List.mem_of_getElem? (i := 16) (by decide +kernel), List.mem_of_getElem? (i := 242) (by decide +kernel), List.mem_of_getElem? (i := 243) (by decide +kernel)⟩
theorem lw_p2 : lw_okq (⟨"PaidInLight$Letters", "isDigitAt", "(I)Z"⟩, 2) := ⟨⟨by decide +kernel, by decide +kernel⟩, List.mem_of_getElem? (i := 157) (by decide +kernel), List.mem_of_getElem? (i := 264) (by decide +kernel), List.mem_of_getElem? (i := 265) (by decide +kernel)⟩
theorem lw_p3 : lw_okq (⟨"PaidInLight", "tellMind", "(I)Z"⟩, 10) := ⟨⟨by decide +kernel, by decide +kernel⟩, List.mem_of_getElem? (i := 16) (by decide +kernel), List.mem_of_getElem? (i := 279) (by decide +kernel), List.mem_of_getElem? (i := 280) (by decide +kernel)⟩
theorem lw_p4 : lw_okq (⟨"PaidInLight", "isCandle", "(I)Z"⟩, 10) := ⟨⟨by decide +kernel, by decide +kernel⟩, List.mem_of_getElem? (i := 16) (by decide +kernel), List.mem_of_getElem? (i := 327) (by decide +kernel), List.mem_of_getElem? (i := 328) (by decide +kernel)⟩
theorem lw_p5 : lw_okq (⟨"PaidInLight$House", "burnMinute", "(LPaidInLight$Candle;)V"⟩, 9) := ⟨⟨by decide +kernel, by decide +kernel⟩, List.mem_of_getElem? (i := 67) (by decide +kernel), List.mem_of_getElem? (i := 458) (by decide +kernel), List.mem_of_getElem? (i := 459) (by decide +kernel)⟩
theorem lw_p6 : lw_okq (⟨"PaidInLight", "thinkAhead", "(I)V"⟩, 10) := ⟨⟨by decide +kernel, by decide +kernel⟩, List.mem_of_getElem? (i := 16) (by decide +kernel), List.mem_of_getElem? (i := 467) (by decide +kernel), List.mem_of_getElem? (i := 468) (by decide +kernel)⟩
theorem lw_p7 : lw_okq (⟨"PaidInLight$Ways", "weigh", "(LPaidInLight$House;II)V"⟩, 6) := ⟨⟨by decide +kernel, by decide +kernel⟩, List.mem_of_getElem? (i := 172) (by decide +kernel), List.mem_of_getElem? (i := 516) (by decide +kernel), List.mem_of_getElem? (i := 517) (by decide +kernel)⟩
theorem lw_p8 : lw_okq (⟨"PaidInLight$House", "strikeTriple", "(III)Z"⟩, 9) := ⟨⟨by decide +kernel, by decide +kernel⟩, List.mem_of_getElem? (i := 67) (by decide +kernel), List.mem_of_getElem? (i := 554) (by decide +kernel), List.mem_of_getElem? (i := 555) (by decide +kernel)⟩
theorem lw_p9 : lw_okq (⟨"PaidInLight", "firstWrong", "()I"⟩, 10) := ⟨⟨by decide +kernel, by decide +kernel⟩, List.mem_of_getElem? (i := 16) (by decide +kernel), List.mem_of_getElem? (i := 585) (by decide +kernel), List.mem_of_getElem? (i := 586) (by decide +kernel)⟩
theorem lw_p10 : lw_okq (⟨"PaidInLightModel", "no", "(I)I"⟩, 29) := ⟨⟨by decide +kernel, by decide +kernel⟩, List.mem_of_getElem? (i := 612) (by decide +kernel), List.mem_of_getElem? (i := 713) (by decide +kernel), List.mem_of_getElem? (i := 714) (by decide +kernel)⟩
theorem lw_p11 : lw_okq (⟨"PaidInLightModel", "statement", "()Z"⟩, 29) := ⟨⟨by decide +kernel, by decide +kernel⟩, List.mem_of_getElem? (i := 612) (by decide +kernel), List.mem_of_getElem? (i := 721) (by decide +kernel), List.mem_of_getElem? (i := 722) (by decide +kernel)⟩
theorem lw_p12 : lw_okq (⟨"PaidInLightModel", "next", "()I"⟩, 29) := ⟨⟨by decide +kernel, by decide +kernel⟩, List.mem_of_getElem? (i := 612) (by decide +kernel), List.mem_of_getElem? (i := 725) (by decide +kernel), List.mem_of_getElem? (i := 726) (by decide +kernel)⟩
theorem lw_p13 : lw_okq (⟨"PaidInLightModel", "readsNumber", "(II)Z"⟩, 29) := ⟨⟨by decide +kernel, by decide +kernel⟩, List.mem_of_getElem? (i := 612) (by decide +kernel), List.mem_of_getElem? (i := 729) (by decide +kernel), List.mem_of_getElem? (i := 730) (by decide +kernel)⟩
theorem lw_p14 : lw_okq (⟨"PaidInLightModel", "passesAll", "(IZ)V"⟩, 29) := ⟨⟨by decide +kernel, by decide +kernel⟩, List.mem_of_getElem? (i := 612) (by decide +kernel), List.mem_of_getElem? (i := 736) (by decide +kernel), List.mem_of_getElem? (i := 737) (by decide +kernel)⟩
theorem lw_p15 : lw_okq (⟨"PaidInLightModel", "passes", "([I)V"⟩, 29) := ⟨⟨by decide +kernel, by decide +kernel⟩, List.mem_of_getElem? (i := 612) (by decide +kernel), List.mem_of_getElem? (i := 740) (by decide +kernel), List.mem_of_getElem? (i := 741) (by decide +kernel)⟩
def lw_privs_1 : List (MethodName × Nat) := [(⟨"PaidInLight", "refuse", "(I)I"⟩, 10), (⟨"PaidInLight", "readNight", "()I"⟩, 10), (⟨"PaidInLight$Letters", "isDigitAt", "(I)Z"⟩, 2), (⟨"PaidInLight", "tellMind", "(I)Z"⟩, 10), (⟨"PaidInLight", "isCandle", "(I)Z"⟩, 10), (⟨"PaidInLight$House", "burnMinute", "(LPaidInLight$Candle;)V"⟩, 9), (⟨"PaidInLight", "thinkAhead", "(I)V"⟩, 10), (⟨"PaidInLight$Ways", "weigh", "(LPaidInLight$House;II)V"⟩, 6), (⟨"PaidInLight$House", "strikeTriple", "(III)Z"⟩, 9), (⟨"PaidInLight", "firstWrong", "()I"⟩, 10), (⟨"PaidInLightModel", "no", "(I)I"⟩, 29), (⟨"PaidInLightModel", "statement", "()Z"⟩, 29), (⟨"PaidInLightModel", "next", "()I"⟩, 29), (⟨"PaidInLightModel", "readsNumber", "(II)Z"⟩, 29), (⟨"PaidInLightModel", "passesAll", "(IZ)V"⟩, 29), (⟨"PaidInLightModel", "passes", "([I)V"⟩, 29)]
theorem lw_r1 : ∀ q ∈ lw_privs_1, lw_okq q := List.forall_mem_cons.mpr ⟨lw_p0, List.forall_mem_cons.mpr ⟨lw_p1, List.forall_mem_cons.mpr ⟨lw_p2, List.forall_mem_cons.mpr ⟨lw_p3, List.forall_mem_cons.mpr ⟨lw_p4, List.forall_mem_cons.mpr ⟨lw_p5, List.forall_mem_cons.mpr ⟨lw_p6, List.forall_mem_cons.mpr ⟨lw_p7, List.forall_mem_cons.mpr ⟨lw_p8, List.forall_mem_cons.mpr ⟨lw_p9, List.forall_mem_cons.mpr ⟨lw_p10, List.forall_mem_cons.mpr ⟨lw_p11, List.forall_mem_cons.mpr ⟨lw_p12, List.forall_mem_cons.mpr ⟨lw_p13, List.forall_mem_cons.mpr ⟨lw_p14, List.forall_mem_cons.mpr ⟨lw_p15, fun _ h => absurd h List.not_mem_nil⟩⟩⟩⟩⟩⟩⟩⟩⟩⟩⟩⟩⟩⟩⟩⟩
theorem lw_p16 : lw_okq (⟨"PaidInLightModel", "passOne", "(I)I"⟩, 29) := ⟨⟨by decide +kernel, by decide +kernel⟩, List.mem_of_getElem? (i := 612) (by decide +kernel), List.mem_of_getElem? (i := 744) (by decide +kernel), List.mem_of_getElem? (i := 745) (by decide +kernel)⟩
theorem lw_p17 : lw_okq (⟨"PaidInLightModel", "comes", "(I)Z"⟩, 29) := ⟨⟨by decide +kernel, by decide +kernel⟩, List.mem_of_getElem? (i := 612) (by decide +kernel), List.mem_of_getElem? (i := 748) (by decide +kernel), List.mem_of_getElem? (i := 749) (by decide +kernel)⟩
theorem lw_p18 : lw_okq (⟨"PaidInLightModel", "comesCandle", "(I)Z"⟩, 29) := ⟨⟨by decide +kernel, by decide +kernel⟩, List.mem_of_getElem? (i := 612) (by decide +kernel), List.mem_of_getElem? (i := 752) (by decide +kernel), List.mem_of_getElem? (i := 753) (by decide +kernel)⟩
theorem lw_p19 : lw_okq (⟨"PaidInLightModel", "isCandle", "(I)Z"⟩, 29) := ⟨⟨by decide +kernel, by decide +kernel⟩, List.mem_of_getElem? (i := 612) (by decide +kernel), List.mem_of_getElem? (i := 762) (by decide +kernel), List.mem_of_getElem? (i := 763) (by decide +kernel)⟩
theorem lw_p20 : lw_okq (⟨"PaidInLightModel", "burnsOf", "(I)I"⟩, 29) := ⟨⟨by decide +kernel, by decide +kernel⟩, List.mem_of_getElem? (i := 612) (by decide +kernel), List.mem_of_getElem? (i := 778) (by decide +kernel), List.mem_of_getElem? (i := 779) (by decide +kernel)⟩
theorem lw_p21 : lw_okq (⟨"PaidInLightModel", "dripsOf", "(I)I"⟩, 29) := ⟨⟨by decide +kernel, by decide +kernel⟩, List.mem_of_getElem? (i := 612) (by decide +kernel), List.mem_of_getElem? (i := 788) (by decide +kernel), List.mem_of_getElem? (i := 789) (by decide +kernel)⟩
theorem lw_p22 : lw_okq (⟨"PaidInLightModel", "countsOf", "(I)I"⟩, 29) := ⟨⟨by decide +kernel, by decide +kernel⟩, List.mem_of_getElem? (i := 612) (by decide +kernel), List.mem_of_getElem? (i := 795) (by decide +kernel), List.mem_of_getElem? (i := 796) (by decide +kernel)⟩
theorem lw_p23 : lw_okq (⟨"PaidInLightModel", "goesMinutes", "(I)V"⟩, 29) := ⟨⟨by decide +kernel, by decide +kernel⟩, List.mem_of_getElem? (i := 612) (by decide +kernel), List.mem_of_getElem? (i := 826) (by decide +kernel), List.mem_of_getElem? (i := 827) (by decide +kernel)⟩
theorem lw_p24 : lw_okq (⟨"PaidInLightModel", "goesMinute", "()V"⟩, 29) := ⟨⟨by decide +kernel, by decide +kernel⟩, List.mem_of_getElem? (i := 612) (by decide +kernel), List.mem_of_getElem? (i := 830) (by decide +kernel), List.mem_of_getElem? (i := 831) (by decide +kernel)⟩
theorem lw_p25 : lw_okq (⟨"PaidInLightModel", "pays", "(II)V"⟩, 29) := ⟨⟨by decide +kernel, by decide +kernel⟩, List.mem_of_getElem? (i := 612) (by decide +kernel), List.mem_of_getElem? (i := 834) (by decide +kernel), List.mem_of_getElem? (i := 835) (by decide +kernel)⟩
theorem lw_p26 : lw_okq (⟨"PaidInLightModel", "isBright", "(I)Z"⟩, 29) := ⟨⟨by decide +kernel, by decide +kernel⟩, List.mem_of_getElem? (i := 612) (by decide +kernel), List.mem_of_getElem? (i := 850) (by decide +kernel), List.mem_of_getElem? (i := 851) (by decide +kernel)⟩
theorem lw_p27 : lw_okq (⟨"PaidInLightModel", "debts", "()I"⟩, 29) := ⟨⟨by decide +kernel, by decide +kernel⟩, List.mem_of_getElem? (i := 612) (by decide +kernel), List.mem_of_getElem? (i := 862) (by decide +kernel), List.mem_of_getElem? (i := 863) (by decide +kernel)⟩
theorem lw_p28 : lw_okq (⟨"PaidInLightModel", "findBest", "(I)V"⟩, 29) := ⟨⟨by decide +kernel, by decide +kernel⟩, List.mem_of_getElem? (i := 612) (by decide +kernel), List.mem_of_getElem? (i := 874) (by decide +kernel), List.mem_of_getElem? (i := 875) (by decide +kernel)⟩
theorem lw_p29 : lw_okq (⟨"PaidInLightModel", "sumBy", "(II)I"⟩, 29) := ⟨⟨by decide +kernel, by decide +kernel⟩, List.mem_of_getElem? (i := 612) (by decide +kernel), List.mem_of_getElem? (i := 878) (by decide +kernel), List.mem_of_getElem? (i := 879) (by decide +kernel)⟩
theorem lw_p30 : lw_okq (⟨"PaidInLightModel", "strikesTwo", "()Z"⟩, 29) := ⟨⟨by decide +kernel, by decide +kernel⟩, List.mem_of_getElem? (i := 612) (by decide +kernel), List.mem_of_getElem? (i := 896) (by decide +kernel), List.mem_of_getElem? (i := 897) (by decide +kernel)⟩
theorem lw_p31 : lw_okq (⟨"PaidInLightModel", "doesOwe", "(II)Z"⟩, 29) := ⟨⟨by decide +kernel, by decide +kernel⟩, List.mem_of_getElem? (i := 612) (by decide +kernel), List.mem_of_getElem? (i := 900) (by decide +kernel), List.mem_of_getElem? (i := 901) (by decide +kernel)⟩
def lw_privs_2 : List (MethodName × Nat) := [(⟨"PaidInLightModel", "passOne", "(I)I"⟩, 29), (⟨"PaidInLightModel", "comes", "(I)Z"⟩, 29), (⟨"PaidInLightModel", "comesCandle", "(I)Z"⟩, 29), (⟨"PaidInLightModel", "isCandle", "(I)Z"⟩, 29), (⟨"PaidInLightModel", "burnsOf", "(I)I"⟩, 29), (⟨"PaidInLightModel", "dripsOf", "(I)I"⟩, 29), (⟨"PaidInLightModel", "countsOf", "(I)I"⟩, 29), (⟨"PaidInLightModel", "goesMinutes", "(I)V"⟩, 29), (⟨"PaidInLightModel", "goesMinute", "()V"⟩, 29), (⟨"PaidInLightModel", "pays", "(II)V"⟩, 29), (⟨"PaidInLightModel", "isBright", "(I)Z"⟩, 29), (⟨"PaidInLightModel", "debts", "()I"⟩, 29), (⟨"PaidInLightModel", "findBest", "(I)V"⟩, 29), (⟨"PaidInLightModel", "sumBy", "(II)I"⟩, 29), (⟨"PaidInLightModel", "strikesTwo", "()Z"⟩, 29), (⟨"PaidInLightModel", "doesOwe", "(II)Z"⟩, 29)]
theorem lw_r2 : ∀ q ∈ lw_privs_2, lw_okq q := List.forall_mem_cons.mpr ⟨lw_p16, List.forall_mem_cons.mpr ⟨lw_p17, List.forall_mem_cons.mpr ⟨lw_p18, List.forall_mem_cons.mpr ⟨lw_p19, List.forall_mem_cons.mpr ⟨lw_p20, List.forall_mem_cons.mpr ⟨lw_p21, List.forall_mem_cons.mpr ⟨lw_p22, List.forall_mem_cons.mpr ⟨lw_p23, List.forall_mem_cons.mpr ⟨lw_p24, List.forall_mem_cons.mpr ⟨lw_p25, List.forall_mem_cons.mpr ⟨lw_p26, List.forall_mem_cons.mpr ⟨lw_p27, List.forall_mem_cons.mpr ⟨lw_p28, List.forall_mem_cons.mpr ⟨lw_p29, List.forall_mem_cons.mpr ⟨lw_p30, List.forall_mem_cons.mpr ⟨lw_p31, fun _ h => absurd h List.not_mem_nil⟩⟩⟩⟩⟩⟩⟩⟩⟩⟩⟩⟩⟩⟩⟩⟩
theorem lw_p32 : lw_okq (⟨"PaidInLightModel", "strikesThree", "()Z"⟩, 29) := ⟨⟨by decide +kernel, by decide +kernel⟩, List.mem_of_getElem? (i := 612) (by decide +kernel), List.mem_of_getElem? (i := 904) (by decide +kernel), List.mem_of_getElem? (i := 905) (by decide +kernel)⟩
theorem lw_p33 : lw_okq (⟨"PaidInLightModel", "lower", "(I)I"⟩, 29) := ⟨⟨by decide +kernel, by decide +kernel⟩, List.mem_of_getElem? (i := 612) (by decide +kernel), List.mem_of_getElem? (i := 912) (by decide +kernel), List.mem_of_getElem? (i := 913) (by decide +kernel)⟩
theorem lw_p34 : lw_okq (⟨"PaidInLightModel", "grainsOfAll", "()I"⟩, 29) := ⟨⟨by decide +kernel, by decide +kernel⟩, List.mem_of_getElem? (i := 612) (by decide +kernel), List.mem_of_getElem? (i := 940) (by decide +kernel), List.mem_of_getElem? (i := 941) (by decide +kernel)⟩
def lw_privs_3 : List (MethodName × Nat) := [(⟨"PaidInLightModel", "strikesThree", "()Z"⟩, 29), (⟨"PaidInLightModel", "lower", "(I)I"⟩, 29), (⟨"PaidInLightModel", "grainsOfAll", "()I"⟩, 29)]
theorem lw_r3 : ∀ q ∈ lw_privs_3, lw_okq q := List.forall_mem_cons.mpr ⟨lw_p32, List.forall_mem_cons.mpr ⟨lw_p33, List.forall_mem_cons.mpr ⟨lw_p34, fun _ h => absurd h List.not_mem_nil⟩⟩⟩
def lw_privs : List (MethodName × Nat) := lw_privs_1 ++ (lw_privs_2 ++ (lw_privs_3))
def lw_tbl : List Cond := k2_sels lw_privs ++ tables_1
theorem lw_privs_ok : ∀ q ∈ lw_privs, lw_okq q := by
  show ∀ q ∈ lw_privs_1 ++ (lw_privs_2 ++ (lw_privs_3)), lw_okq q
  exact List.forall_mem_append.mpr ⟨lw_r1, List.forall_mem_append.mpr ⟨lw_r2, lw_r3⟩⟩
end
section
def RX0 : String := "PaidInLight$Beeswax"
def TX0 : u_T := fun k => match k with
  | _ => ("", "", "", false)
def tyX0 : Nat → FieldType := fun k => match k with
  | _ => .int
abbrev wsX00 : List Cond := u_ws RX0 TX0 0
theorem nmX0 : ∀ a, a < 0 → ∀ b, b < 0 → a ≠ b → (TX0 a).2.1 ≠ (TX0 b).2.1 := by decide +kernel
theorem tyX0_ok : ∀ k, k < 0 → parseFieldDescriptor (TX0 k).2.2.1 = some (tyX0 k) := by decide +kernel
abbrev cX0_init : ByteArray := prog_2_method_1_code
def yX0_init : MethodName := ⟨RX0, "<init>", "()V"⟩
abbrev cX0_rate : ByteArray := prog_2_method_2_code
def yX0_rate : MethodName := ⟨RX0, "rate", "(II)I"⟩
abbrev cX0_drips : ByteArray := prog_2_method_3_code
def yX0_drips : MethodName := ⟨RX0, "drips", "(III)I"⟩
abbrev cX0_worthOfClean : ByteArray := prog_2_method_4_code
def yX0_worthOfClean : MethodName := ⟨RX0, "worthOfClean", "(I)I"⟩
def RX1 : String := "PaidInLight$Candle"
def TX1 : u_T := fun k => match k with
  | 0 => ("PaidInLight$Candle", "kind", "I", false)
  | 1 => ("PaidInLight$Candle", "figure", "I", false)
  | 2 => ("PaidInLight$Candle", "grains", "I", false)
  | 3 => ("PaidInLight$Candle", "whose", "I", false)
  | 4 => ("PaidInLight$Candle", "room", "I", false)
  | _ => ("PaidInLight$Candle", "lit", "Z", false)
def tyX1 : Nat → FieldType := fun k => match k with
  | 0 => .int
  | 1 => .int
  | 2 => .int
  | 3 => .int
  | 4 => .int
  | _ => .boolean
abbrev wsX10 : List Cond := u_ws RX1 TX1 6
theorem nmX1 : ∀ a, a < 6 → ∀ b, b < 6 → a ≠ b → (TX1 a).2.1 ≠ (TX1 b).2.1 := by decide +kernel
theorem tyX1_ok : ∀ k, k < 6 → parseFieldDescriptor (TX1 k).2.2.1 = some (tyX1 k) := by decide +kernel
abbrev cX1_init : ByteArray := prog_3_method_1_code
def yX1_init : MethodName := ⟨RX1, "<init>", "()V"⟩
abbrev cX1_become : ByteArray := prog_3_method_2_code
def yX1_become : MethodName := ⟨RX1, "become", "(LPaidInLight$Candle;)V"⟩
def RX2 : String := "PaidInLight$Fat"
def TX2 : u_T := fun k => match k with
  | _ => ("", "", "", false)
def tyX2 : Nat → FieldType := fun k => match k with
  | _ => .int
abbrev wsX20 : List Cond := u_ws RX2 TX2 0
theorem nmX2 : ∀ a, a < 0 → ∀ b, b < 0 → a ≠ b → (TX2 a).2.1 ≠ (TX2 b).2.1 := by decide +kernel
theorem tyX2_ok : ∀ k, k < 0 → parseFieldDescriptor (TX2 k).2.2.1 = some (tyX2 k) := by decide +kernel
abbrev cX2_init : ByteArray := prog_4_method_1_code
def yX2_init : MethodName := ⟨RX2, "<init>", "()V"⟩
abbrev cX2_rate : ByteArray := prog_4_method_2_code
def yX2_rate : MethodName := ⟨RX2, "rate", "(II)I"⟩
abbrev cX2_drips : ByteArray := prog_4_method_3_code
def yX2_drips : MethodName := ⟨RX2, "drips", "(III)I"⟩
abbrev cX2_worthOfClean : ByteArray := prog_4_method_4_code
def yX2_worthOfClean : MethodName := ⟨RX2, "worthOfClean", "(I)I"⟩
def RX3 : String := "PaidInLight$Guttering"
def TX3 : u_T := fun k => match k with
  | _ => ("", "", "", false)
def tyX3 : Nat → FieldType := fun k => match k with
  | _ => .int
abbrev wsX30 : List Cond := u_ws RX3 TX3 0
theorem nmX3 : ∀ a, a < 0 → ∀ b, b < 0 → a ≠ b → (TX3 a).2.1 ≠ (TX3 b).2.1 := by decide +kernel
theorem tyX3_ok : ∀ k, k < 0 → parseFieldDescriptor (TX3 k).2.2.1 = some (tyX3 k) := by decide +kernel
abbrev cX3_init : ByteArray := prog_5_method_1_code
def yX3_init : MethodName := ⟨RX3, "<init>", "()V"⟩
abbrev cX3_rate : ByteArray := prog_5_method_2_code
def yX3_rate : MethodName := ⟨RX3, "rate", "(II)I"⟩
abbrev cX3_drips : ByteArray := prog_5_method_3_code
def yX3_drips : MethodName := ⟨RX3, "drips", "(III)I"⟩
def RX4 : String := "PaidInLight$House"
def TX4 : u_T := fun k => match k with
  | 0 => ("PaidInLight$House", "kinds", "[LPaidInLight$Wax;", true)
  | 1 => ("PaidInLight$House", "candles", "[LPaidInLight$Candle;", true)
  | 2 => ("PaidInLight$House", "draughts", "[I", true)
  | 3 => ("PaidInLight$House", "debts", "[I", true)
  | 4 => ("PaidInLight$House", "candleCount", "I", false)
  | 5 => ("PaidInLight$House", "minute", "I", false)
  | 6 => ("PaidInLight$House", "burntSum", "I", false)
  | 7 => ("PaidInLight$House", "dripsSum", "I", false)
  | _ => ("PaidInLight$House", "paidSum", "I", false)
def tyX4 : Nat → FieldType := fun k => match k with
  | 0 => .array (.object "PaidInLight$Wax")
  | 1 => .array (.object "PaidInLight$Candle")
  | 2 => .array .int
  | 3 => .array .int
  | 4 => .int
  | 5 => .int
  | 6 => .int
  | 7 => .int
  | _ => .int
abbrev wsX40 : List Cond := u_ws RX4 TX4 9
theorem nmX4 : ∀ a, a < 9 → ∀ b, b < 9 → a ≠ b → (TX4 a).2.1 ≠ (TX4 b).2.1 := by decide +kernel
theorem tyX4_ok : ∀ k, k < 9 → parseFieldDescriptor (TX4 k).2.2.1 = some (tyX4 k) := by decide +kernel
abbrev cX4_init : ByteArray := prog_6_method_1_code
def yX4_init : MethodName := ⟨RX4, "<init>", "([LPaidInLight$Wax;)V"⟩
abbrev cX4_become : ByteArray := prog_6_method_2_code
def yX4_become : MethodName := ⟨RX4, "become", "(LPaidInLight$House;)V"⟩
abbrev cX4_burnsOf : ByteArray := prog_6_method_3_code
def yX4_burnsOf : MethodName := ⟨RX4, "burnsOf", "(LPaidInLight$Candle;)I"⟩
abbrev cX4_dripsOf : ByteArray := prog_6_method_4_code
def yX4_dripsOf : MethodName := ⟨RX4, "dripsOf", "(LPaidInLight$Candle;)I"⟩
abbrev cX4_worthOf : ByteArray := prog_6_method_5_code
def yX4_worthOf : MethodName := ⟨RX4, "worthOf", "(LPaidInLight$Candle;)I"⟩
abbrev cX4_passMinute : ByteArray := prog_6_method_6_code
def yX4_passMinute : MethodName := ⟨RX4, "passMinute", "()V"⟩
abbrev cX4_burnMinute : ByteArray := prog_6_method_7_code
def yX4_burnMinute : MethodName := ⟨RX4, "burnMinute", "(LPaidInLight$Candle;)V"⟩
abbrev cX4_isBurning : ByteArray := prog_6_method_8_code
def yX4_isBurning : MethodName := ⟨RX4, "isBurning", "(LPaidInLight$Candle;)Z"⟩
abbrev cX4_isBright : ByteArray := prog_6_method_9_code
def yX4_isBright : MethodName := ⟨RX4, "isBright", "(I)Z"⟩
abbrev cX4_litCandles : ByteArray := prog_6_method_10_code
def yX4_litCandles : MethodName := ⟨RX4, "litCandles", "()I"⟩
abbrev cX4_allGrains : ByteArray := prog_6_method_11_code
def yX4_allGrains : MethodName := ⟨RX4, "allGrains", "()I"⟩
abbrev cX4_allDebts : ByteArray := prog_6_method_12_code
def yX4_allDebts : MethodName := ⟨RX4, "allDebts", "()I"⟩
abbrev cX4_owedTo : ByteArray := prog_6_method_13_code
def yX4_owedTo : MethodName := ⟨RX4, "owedTo", "(I)I"⟩
abbrev cX4_owedBy : ByteArray := prog_6_method_14_code
def yX4_owedBy : MethodName := ⟨RX4, "owedBy", "(I)I"⟩
abbrev cX4_strikePairs : ByteArray := prog_6_method_15_code
def yX4_strikePairs : MethodName := ⟨RX4, "strikePairs", "()I"⟩
abbrev cX4_strikeTriples : ByteArray := prog_6_method_16_code
def yX4_strikeTriples : MethodName := ⟨RX4, "strikeTriples", "()I"⟩
abbrev cX4_strikeTriple : ByteArray := prog_6_method_17_code
def yX4_strikeTriple : MethodName := ⟨RX4, "strikeTriple", "(III)Z"⟩
abbrev cX4_takeCandle : ByteArray := prog_6_method_18_code
def yX4_takeCandle : MethodName := ⟨RX4, "takeCandle", "(IIII)Z"⟩
abbrev cX4_takeDebt : ByteArray := prog_6_method_19_code
def yX4_takeDebt : MethodName := ⟨RX4, "takeDebt", "(III)Z"⟩
abbrev cX4_takeDraught : ByteArray := prog_6_method_20_code
def yX4_takeDraught : MethodName := ⟨RX4, "takeDraught", "(II)Z"⟩
abbrev cX4_takePlace : ByteArray := prog_6_method_21_code
def yX4_takePlace : MethodName := ⟨RX4, "takePlace", "(II)Z"⟩
def RX5 : String := "PaidInLight$Letters"
def TX5 : u_T := fun k => match k with
  | 0 => ("PaidInLight$Letters", "signs", "[I", true)
  | _ => ("PaidInLight$Letters", "size", "I", false)
def tyX5 : Nat → FieldType := fun k => match k with
  | 0 => .array .int
  | _ => .int
abbrev wsX50 : List Cond := u_ws RX5 TX5 2
theorem nmX5 : ∀ a, a < 2 → ∀ b, b < 2 → a ≠ b → (TX5 a).2.1 ≠ (TX5 b).2.1 := by decide +kernel
theorem tyX5_ok : ∀ k, k < 2 → parseFieldDescriptor (TX5 k).2.2.1 = some (tyX5 k) := by decide +kernel
abbrev cX5_init : ByteArray := prog_7_method_1_code
def yX5_init : MethodName := ⟨RX5, "<init>", "()V"⟩
abbrev cX5_signAt : ByteArray := prog_7_method_2_code
def yX5_signAt : MethodName := ⟨RX5, "signAt", "(I)I"⟩
abbrev cX5_digitAt : ByteArray := prog_7_method_3_code
def yX5_digitAt : MethodName := ⟨RX5, "digitAt", "(I)I"⟩
abbrev cX5_isDigitAt : ByteArray := prog_7_method_4_code
def yX5_isDigitAt : MethodName := ⟨RX5, "isDigitAt", "(I)Z"⟩
abbrev cX5_numberAt : ByteArray := prog_7_method_5_code
def yX5_numberAt : MethodName := ⟨RX5, "numberAt", "(I)I"⟩
abbrev cX5_formFault : ByteArray := prog_7_method_6_code
def yX5_formFault : MethodName := ⟨RX5, "formFault", "()I"⟩
abbrev cX5_behindStatement : ByteArray := prog_7_method_7_code
def yX5_behindStatement : MethodName := ⟨RX5, "behindStatement", "(I)I"⟩
abbrev cX5_leastDigits : ByteArray := prog_7_method_8_code
def yX5_leastDigits : MethodName := ⟨RX5, "leastDigits", "(I)I"⟩
abbrev cX5_mostDigits : ByteArray := prog_7_method_9_code
def yX5_mostDigits : MethodName := ⟨RX5, "mostDigits", "(I)I"⟩
def RX6 : String := "PaidInLight$Mixed"
def TX6 : u_T := fun k => match k with
  | _ => ("", "", "", false)
def tyX6 : Nat → FieldType := fun k => match k with
  | _ => .int
abbrev wsX60 : List Cond := u_ws RX6 TX6 0
theorem nmX6 : ∀ a, a < 0 → ∀ b, b < 0 → a ≠ b → (TX6 a).2.1 ≠ (TX6 b).2.1 := by decide +kernel
theorem tyX6_ok : ∀ k, k < 0 → parseFieldDescriptor (TX6 k).2.2.1 = some (tyX6 k) := by decide +kernel
abbrev cX6_init : ByteArray := prog_8_method_1_code
def yX6_init : MethodName := ⟨RX6, "<init>", "()V"⟩
abbrev cX6_rate : ByteArray := prog_8_method_2_code
def yX6_rate : MethodName := ⟨RX6, "rate", "(II)I"⟩
abbrev cX6_drips : ByteArray := prog_8_method_3_code
def yX6_drips : MethodName := ⟨RX6, "drips", "(III)I"⟩
def RX7 : String := "PaidInLight$Thick"
def TX7 : u_T := fun k => match k with
  | _ => ("", "", "", false)
def tyX7 : Nat → FieldType := fun k => match k with
  | _ => .int
abbrev wsX70 : List Cond := u_ws RX7 TX7 0
theorem nmX7 : ∀ a, a < 0 → ∀ b, b < 0 → a ≠ b → (TX7 a).2.1 ≠ (TX7 b).2.1 := by decide +kernel
theorem tyX7_ok : ∀ k, k < 0 → parseFieldDescriptor (TX7 k).2.2.1 = some (tyX7 k) := by decide +kernel
abbrev cX7_init : ByteArray := prog_9_method_1_code
def yX7_init : MethodName := ⟨RX7, "<init>", "()V"⟩
abbrev cX7_rate : ByteArray := prog_9_method_2_code
def yX7_rate : MethodName := ⟨RX7, "rate", "(II)I"⟩
def RX8 : String := "PaidInLight$Wax"
def TX8 : u_T := fun k => match k with
  | _ => ("", "", "", false)
def tyX8 : Nat → FieldType := fun k => match k with
  | _ => .int
abbrev wsX80 : List Cond := u_ws RX8 TX8 0
theorem nmX8 : ∀ a, a < 0 → ∀ b, b < 0 → a ≠ b → (TX8 a).2.1 ≠ (TX8 b).2.1 := by decide +kernel
theorem tyX8_ok : ∀ k, k < 0 → parseFieldDescriptor (TX8 k).2.2.1 = some (tyX8 k) := by decide +kernel
abbrev cX8_init : ByteArray := prog_10_method_1_code
def yX8_init : MethodName := ⟨RX8, "<init>", "()V"⟩
abbrev cX8_rate : ByteArray := prog_10_method_2_code
def yX8_rate : MethodName := ⟨RX8, "rate", "(II)I"⟩
abbrev cX8_drips : ByteArray := prog_10_method_3_code
def yX8_drips : MethodName := ⟨RX8, "drips", "(III)I"⟩
abbrev cX8_worthOfClean : ByteArray := prog_10_method_4_code
def yX8_worthOfClean : MethodName := ⟨RX8, "worthOfClean", "(I)I"⟩
abbrev cX8_worth : ByteArray := prog_10_method_5_code
def yX8_worth : MethodName := ⟨RX8, "worth", "(III)I"⟩
def RX9 : String := "PaidInLight$Ways"
def TX9 : u_T := fun k => match k with
  | 0 => ("PaidInLight$Ways", "debts", "[I", true)
  | 1 => ("PaidInLight$Ways", "worths", "[I", true)
  | 2 => ("PaidInLight$Ways", "mostPaid", "[I", true)
  | 3 => ("PaidInLight$Ways", "tried", "[I", true)
  | 4 => ("PaidInLight$Ways", "rooms", "[I", true)
  | _ => ("PaidInLight$Ways", "least", "I", false)
def tyX9 : Nat → FieldType := fun k => match k with
  | 0 => .array .int
  | 1 => .array .int
  | 2 => .array .int
  | 3 => .array .int
  | 4 => .array .int
  | _ => .int
abbrev wsX90 : List Cond := u_ws RX9 TX9 6
theorem nmX9 : ∀ a, a < 6 → ∀ b, b < 6 → a ≠ b → (TX9 a).2.1 ≠ (TX9 b).2.1 := by decide +kernel
theorem tyX9_ok : ∀ k, k < 6 → parseFieldDescriptor (TX9 k).2.2.1 = some (tyX9 k) := by decide +kernel
abbrev cX9_init : ByteArray := prog_11_method_1_code
def yX9_init : MethodName := ⟨RX9, "<init>", "()V"⟩
abbrev cX9_find : ByteArray := prog_11_method_2_code
def yX9_find : MethodName := ⟨RX9, "find", "(LPaidInLight$House;I)V"⟩
abbrev cX9_weigh : ByteArray := prog_11_method_3_code
def yX9_weigh : MethodName := ⟨RX9, "weigh", "(LPaidInLight$House;II)V"⟩
abbrev cX9_worthIn : ByteArray := prog_11_method_4_code
def yX9_worthIn : MethodName := ⟨RX9, "worthIn", "(LPaidInLight$House;III)I"⟩
abbrev cX9_tryRooms : ByteArray := prog_11_method_5_code
def yX9_tryRooms : MethodName := ⟨RX9, "tryRooms", "(LPaidInLight$Ways;LPaidInLight$House;II)V"⟩
def RX10 : String := "PaidInLight"
def TX10 : u_T := fun k => match k with
  | 0 => ("PaidInLight", "kinds", "[LPaidInLight$Wax;", true)
  | 1 => ("PaidInLight", "now", "LPaidInLight$House;", true)
  | 2 => ("PaidInLight", "mind", "LPaidInLight$House;", true)
  | 3 => ("PaidInLight", "kept", "LPaidInLight$House;", true)
  | 4 => ("PaidInLight", "isKept", "Z", false)
  | 5 => ("PaidInLight", "letters", "LPaidInLight$Letters;", true)
  | 6 => ("PaidInLight", "ways", "LPaidInLight$Ways;", true)
  | 7 => ("PaidInLight", "told", "[I", true)
  | 8 => ("PaidInLight", "toldCount", "I", false)
  | _ => ("PaidInLight", "refusals", "[I", true)
def tyX10 : Nat → FieldType := fun k => match k with
  | 0 => .array (.object "PaidInLight$Wax")
  | 1 => .object "PaidInLight$House"
  | 2 => .object "PaidInLight$House"
  | 3 => .object "PaidInLight$House"
  | 4 => .boolean
  | 5 => .object "PaidInLight$Letters"
  | 6 => .object "PaidInLight$Ways"
  | 7 => .array .int
  | 8 => .int
  | _ => .array .int
abbrev wsX100 : List Cond := u_ws RX10 TX10 10
theorem nmX10 : ∀ a, a < 10 → ∀ b, b < 10 → a ≠ b → (TX10 a).2.1 ≠ (TX10 b).2.1 := by decide +kernel
theorem tyX10_ok : ∀ k, k < 10 → parseFieldDescriptor (TX10 k).2.2.1 = some (tyX10 k) := by decide +kernel
abbrev cX10_init : ByteArray := prog_1_method_1_code
def yX10_init : MethodName := ⟨RX10, "<init>", "()V"⟩
abbrev cX10_feed : ByteArray := prog_1_method_2_code
def yX10_feed : MethodName := ⟨RX10, "feed", "(I)I"⟩
abbrev cX10_night : ByteArray := prog_1_method_3_code
def yX10_night : MethodName := ⟨RX10, "night", "()I"⟩
abbrev cX10_candle : ByteArray := prog_1_method_4_code
def yX10_candle : MethodName := ⟨RX10, "candle", "(II)I"⟩
abbrev cX10_put : ByteArray := prog_1_method_5_code
def yX10_put : MethodName := ⟨RX10, "put", "(II)I"⟩
abbrev cX10_light : ByteArray := prog_1_method_6_code
def yX10_light : MethodName := ⟨RX10, "light", "(IZ)I"⟩
abbrev cX10_draught : ByteArray := prog_1_method_7_code
def yX10_draught : MethodName := ⟨RX10, "draught", "(II)I"⟩
abbrev cX10_owe : ByteArray := prog_1_method_8_code
def yX10_owe : MethodName := ⟨RX10, "owe", "(III)I"⟩
abbrev cX10_debt : ByteArray := prog_1_method_9_code
def yX10_debt : MethodName := ⟨RX10, "debt", "(II)I"⟩
abbrev cX10_go : ByteArray := prog_1_method_10_code
def yX10_go : MethodName := ⟨RX10, "go", "(I)I"⟩
abbrev cX10_behind : ByteArray := prog_1_method_11_code
def yX10_behind : MethodName := ⟨RX10, "behind", "(II)I"⟩
abbrev cX10_owes : ByteArray := prog_1_method_12_code
def yX10_owes : MethodName := ⟨RX10, "owes", "(III)I"⟩
abbrev cX10_reads : ByteArray := prog_1_method_13_code
def yX10_reads : MethodName := ⟨RX10, "reads", "(II)I"⟩
abbrev cX10_ends : ByteArray := prog_1_method_14_code
def yX10_ends : MethodName := ⟨RX10, "ends", "(I)I"⟩
abbrev cX10_clearBy : ByteArray := prog_1_method_15_code
def yX10_clearBy : MethodName := ⟨RX10, "clearBy", "()I"⟩
abbrev cX10_dark : ByteArray := prog_1_method_16_code
def yX10_dark : MethodName := ⟨RX10, "dark", "(I)I"⟩
abbrev cX10_best : ByteArray := prog_1_method_17_code
def yX10_best : MethodName := ⟨RX10, "best", "(II)I"⟩
abbrev cX10_pour : ByteArray := prog_1_method_18_code
def yX10_pour : MethodName := ⟨RX10, "pour", "(IIII)I"⟩
abbrev cX10_strike : ByteArray := prog_1_method_19_code
def yX10_strike : MethodName := ⟨RX10, "strike", "()I"⟩
abbrev cX10_owed : ByteArray := prog_1_method_20_code
def yX10_owed : MethodName := ⟨RX10, "owed", "(I)I"⟩
abbrev cX10_cheat : ByteArray := prog_1_method_21_code
def yX10_cheat : MethodName := ⟨RX10, "cheat", "(IIIII)I"⟩
abbrev cX10_dripped : ByteArray := prog_1_method_22_code
def yX10_dripped : MethodName := ⟨RX10, "dripped", "(IIII)I"⟩
abbrev cX10_row : ByteArray := prog_1_method_23_code
def yX10_row : MethodName := ⟨RX10, "row", "(I)I"⟩
abbrev cX10_judge : ByteArray := prog_1_method_24_code
def yX10_judge : MethodName := ⟨RX10, "judge", "()I"⟩
abbrev cX10_seeds : ByteArray := prog_1_method_25_code
def yX10_seeds : MethodName := ⟨RX10, "seeds", "(II)I"⟩
abbrev cX10_image : ByteArray := prog_1_method_26_code
def yX10_image : MethodName := ⟨RX10, "image", "()I"⟩
abbrev cX10_restore : ByteArray := prog_1_method_27_code
def yX10_restore : MethodName := ⟨RX10, "restore", "()I"⟩
abbrev cX10_count : ByteArray := prog_1_method_28_code
def yX10_count : MethodName := ⟨RX10, "count", "(I)I"⟩
abbrev cX10_refuse : ByteArray := prog_1_method_29_code
def yX10_refuse : MethodName := ⟨RX10, "refuse", "(I)I"⟩
abbrev cX10_isCandle : ByteArray := prog_1_method_30_code
def yX10_isCandle : MethodName := ⟨RX10, "isCandle", "(I)Z"⟩
abbrev cX10_isPerson : ByteArray := prog_1_method_31_code
def yX10_isPerson : MethodName := ⟨RX10, "isPerson", "(I)Z"⟩
abbrev cX10_areTwo : ByteArray := prog_1_method_32_code
def yX10_areTwo : MethodName := ⟨RX10, "areTwo", "(II)Z"⟩
abbrev cX10_isKind : ByteArray := prog_1_method_33_code
def yX10_isKind : MethodName := ⟨RX10, "isKind", "(I)Z"⟩
abbrev cX10_pair : ByteArray := prog_1_method_34_code
def yX10_pair : MethodName := ⟨RX10, "pair", "(II)I"⟩
abbrev cX10_outside : ByteArray := prog_1_method_35_code
def yX10_outside : MethodName := ⟨RX10, "outside", "(III)I"⟩
abbrev cX10_thinkAhead : ByteArray := prog_1_method_36_code
def yX10_thinkAhead : MethodName := ⟨RX10, "thinkAhead", "(I)V"⟩
abbrev cX10_leastGrains : ByteArray := prog_1_method_37_code
def yX10_leastGrains : MethodName := ⟨RX10, "leastGrains", "(LPaidInLight$Wax;III)I"⟩
abbrev cX10_firstWrong : ByteArray := prog_1_method_38_code
def yX10_firstWrong : MethodName := ⟨RX10, "firstWrong", "()I"⟩
abbrev cX10_readNight : ByteArray := prog_1_method_39_code
def yX10_readNight : MethodName := ⟨RX10, "readNight", "()I"⟩
abbrev cX10_tellMind : ByteArray := prog_1_method_40_code
def yX10_tellMind : MethodName := ⟨RX10, "tellMind", "(I)Z"⟩
def RX11 : String := "PaidInLightModel"
def TX11 : u_T := fun k => match k with
  | 0 => ("PaidInLightModel", "refused", "[I", true)
  | 1 => ("PaidInLightModel", "kind", "[I", true)
  | 2 => ("PaidInLightModel", "figure", "[I", true)
  | 3 => ("PaidInLightModel", "grains", "[I", true)
  | 4 => ("PaidInLightModel", "whose", "[I", true)
  | 5 => ("PaidInLightModel", "room", "[I", true)
  | 6 => ("PaidInLightModel", "lit", "[I", true)
  | 7 => ("PaidInLightModel", "draught", "[I", true)
  | 8 => ("PaidInLightModel", "debt", "[I", true)
  | 9 => ("PaidInLightModel", "candles", "I", false)
  | 10 => ("PaidInLightModel", "minute", "I", false)
  | 11 => ("PaidInLightModel", "burnt", "I", false)
  | 12 => ("PaidInLightModel", "dripped", "I", false)
  | 13 => ("PaidInLightModel", "paid", "I", false)
  | 14 => ("PaidInLightModel", "tape", "[I", true)
  | 15 => ("PaidInLightModel", "letter", "[I", true)
  | 16 => ("PaidInLightModel", "letterAt", "[I", true)
  | 17 => ("PaidInLightModel", "told", "[I", true)
  | 18 => ("PaidInLightModel", "taped", "I", false)
  | 19 => ("PaidInLightModel", "at", "I", false)
  | 20 => ("PaidInLightModel", "statements", "I", false)
  | 21 => ("PaidInLightModel", "kept", "[I", true)
  | 22 => ("PaidInLightModel", "hasImage", "Z", false)
  | 23 => ("PaidInLightModel", "isKeeping", "Z", false)
  | 24 => ("PaidInLightModel", "cursor", "I", false)
  | 25 => ("PaidInLightModel", "bestSum", "I", false)
  | 26 => ("PaidInLightModel", "bestRooms", "I", false)
  | 27 => ("PaidInLightModel", "row", "[I", true)
  | _ => ("PaidInLightModel", "rowMany", "I", false)
def tyX11 : Nat → FieldType := fun k => match k with
  | 0 => .array .int
  | 1 => .array .int
  | 2 => .array .int
  | 3 => .array .int
  | 4 => .array .int
  | 5 => .array .int
  | 6 => .array .int
  | 7 => .array .int
  | 8 => .array .int
  | 9 => .int
  | 10 => .int
  | 11 => .int
  | 12 => .int
  | 13 => .int
  | 14 => .array .int
  | 15 => .array .int
  | 16 => .array .int
  | 17 => .array .int
  | 18 => .int
  | 19 => .int
  | 20 => .int
  | 21 => .array .int
  | 22 => .boolean
  | 23 => .boolean
  | 24 => .int
  | 25 => .int
  | 26 => .int
  | 27 => .array .int
  | _ => .int
abbrev wsX110 : List Cond := u_ws RX11 TX11 29
theorem nmX11 : ∀ a, a < 29 → ∀ b, b < 29 → a ≠ b → (TX11 a).2.1 ≠ (TX11 b).2.1 := by decide +kernel
theorem tyX11_ok : ∀ k, k < 29 → parseFieldDescriptor (TX11 k).2.2.1 = some (tyX11 k) := by decide +kernel
abbrev cX11_init : ByteArray := prog_13_method_1_code
def yX11_init : MethodName := ⟨RX11, "<init>", "()V"⟩
abbrev cX11_no : ByteArray := prog_13_method_2_code
def yX11_no : MethodName := ⟨RX11, "no", "(I)I"⟩
abbrev cX11_lower : ByteArray := prog_13_method_3_code
def yX11_lower : MethodName := ⟨RX11, "lower", "(I)I"⟩
abbrev cX11_isIn : ByteArray := prog_13_method_4_code
def yX11_isIn : MethodName := ⟨RX11, "isIn", "(III)Z"⟩
abbrev cX11_bound : ByteArray := prog_13_method_5_code
def yX11_bound : MethodName := ⟨RX11, "bound", "(III)I"⟩
abbrev cX11_least : ByteArray := prog_13_method_6_code
def yX11_least : MethodName := ⟨RX11, "least", "(II)I"⟩
abbrev cX11_isCandle : ByteArray := prog_13_method_7_code
def yX11_isCandle : MethodName := ⟨RX11, "isCandle", "(I)Z"⟩
abbrev cX11_isOne : ByteArray := prog_13_method_8_code
def yX11_isOne : MethodName := ⟨RX11, "isOne", "(I)Z"⟩
abbrev cX11_areTwo : ByteArray := prog_13_method_9_code
def yX11_areTwo : MethodName := ⟨RX11, "areTwo", "(II)Z"⟩
abbrev cX11_feed : ByteArray := prog_13_method_10_code
def yX11_feed : MethodName := ⟨RX11, "feed", "(I)I"⟩
abbrev cX11_next : ByteArray := prog_13_method_11_code
def yX11_next : MethodName := ⟨RX11, "next", "()I"⟩
abbrev cX11_readsNumber : ByteArray := prog_13_method_12_code
def yX11_readsNumber : MethodName := ⟨RX11, "readsNumber", "(II)Z"⟩
abbrev cX11_statement : ByteArray := prog_13_method_13_code
def yX11_statement : MethodName := ⟨RX11, "statement", "()Z"⟩
abbrev cX11_comesCandle : ByteArray := prog_13_method_14_code
def yX11_comesCandle : MethodName := ⟨RX11, "comesCandle", "(I)Z"⟩
abbrev cX11_comes : ByteArray := prog_13_method_15_code
def yX11_comes : MethodName := ⟨RX11, "comes", "(I)Z"⟩
abbrev cX11_night : ByteArray := prog_13_method_16_code
def yX11_night : MethodName := ⟨RX11, "night", "()I"⟩
abbrev cX11_passes : ByteArray := prog_13_method_17_code
def yX11_passes : MethodName := ⟨RX11, "passes", "([I)V"⟩
abbrev cX11_passOne : ByteArray := prog_13_method_18_code
def yX11_passOne : MethodName := ⟨RX11, "passOne", "(I)I"⟩
abbrev cX11_passesAll : ByteArray := prog_13_method_19_code
def yX11_passesAll : MethodName := ⟨RX11, "passesAll", "(IZ)V"⟩
abbrev cX11_image : ByteArray := prog_13_method_20_code
def yX11_image : MethodName := ⟨RX11, "image", "()I"⟩
abbrev cX11_restore : ByteArray := prog_13_method_21_code
def yX11_restore : MethodName := ⟨RX11, "restore", "()I"⟩
abbrev cX11_burns : ByteArray := prog_13_method_22_code
def yX11_burns : MethodName := ⟨RX11, "burns", "(IIII)I"⟩
abbrev cX11_drips : ByteArray := prog_13_method_23_code
def yX11_drips : MethodName := ⟨RX11, "drips", "(IIII)I"⟩
abbrev cX11_counts : ByteArray := prog_13_method_24_code
def yX11_counts : MethodName := ⟨RX11, "counts", "(II)I"⟩
abbrev cX11_burnsOf : ByteArray := prog_13_method_25_code
def yX11_burnsOf : MethodName := ⟨RX11, "burnsOf", "(I)I"⟩
abbrev cX11_dripsOf : ByteArray := prog_13_method_26_code
def yX11_dripsOf : MethodName := ⟨RX11, "dripsOf", "(I)I"⟩
abbrev cX11_countsOf : ByteArray := prog_13_method_27_code
def yX11_countsOf : MethodName := ⟨RX11, "countsOf", "(I)I"⟩
abbrev cX11_candle : ByteArray := prog_13_method_28_code
def yX11_candle : MethodName := ⟨RX11, "candle", "(II)I"⟩
abbrev cX11_put : ByteArray := prog_13_method_29_code
def yX11_put : MethodName := ⟨RX11, "put", "(II)I"⟩
abbrev cX11_light : ByteArray := prog_13_method_30_code
def yX11_light : MethodName := ⟨RX11, "light", "(IZ)I"⟩
abbrev cX11_draught : ByteArray := prog_13_method_31_code
def yX11_draught : MethodName := ⟨RX11, "draught", "(II)I"⟩
abbrev cX11_owe : ByteArray := prog_13_method_32_code
def yX11_owe : MethodName := ⟨RX11, "owe", "(III)I"⟩
abbrev cX11_debt : ByteArray := prog_13_method_33_code
def yX11_debt : MethodName := ⟨RX11, "debt", "(II)I"⟩
abbrev cX11_pays : ByteArray := prog_13_method_34_code
def yX11_pays : MethodName := ⟨RX11, "pays", "(II)V"⟩
abbrev cX11_goesMinute : ByteArray := prog_13_method_35_code
def yX11_goesMinute : MethodName := ⟨RX11, "goesMinute", "()V"⟩
abbrev cX11_goesMinutes : ByteArray := prog_13_method_36_code
def yX11_goesMinutes : MethodName := ⟨RX11, "goesMinutes", "(I)V"⟩
abbrev cX11_go : ByteArray := prog_13_method_37_code
def yX11_go : MethodName := ⟨RX11, "go", "(I)I"⟩
abbrev cX11_behind : ByteArray := prog_13_method_38_code
def yX11_behind : MethodName := ⟨RX11, "behind", "(II)I"⟩
abbrev cX11_owes : ByteArray := prog_13_method_39_code
def yX11_owes : MethodName := ⟨RX11, "owes", "(III)I"⟩
abbrev cX11_isBright : ByteArray := prog_13_method_40_code
def yX11_isBright : MethodName := ⟨RX11, "isBright", "(I)Z"⟩
abbrev cX11_reads : ByteArray := prog_13_method_41_code
def yX11_reads : MethodName := ⟨RX11, "reads", "(II)I"⟩
abbrev cX11_ends : ByteArray := prog_13_method_42_code
def yX11_ends : MethodName := ⟨RX11, "ends", "(I)I"⟩
abbrev cX11_debts : ByteArray := prog_13_method_43_code
def yX11_debts : MethodName := ⟨RX11, "debts", "()I"⟩
abbrev cX11_clearBy : ByteArray := prog_13_method_44_code
def yX11_clearBy : MethodName := ⟨RX11, "clearBy", "()I"⟩
abbrev cX11_dark : ByteArray := prog_13_method_45_code
def yX11_dark : MethodName := ⟨RX11, "dark", "(I)I"⟩
abbrev cX11_roomOf : ByteArray := prog_13_method_46_code
def yX11_roomOf : MethodName := ⟨RX11, "roomOf", "(III)I"⟩
abbrev cX11_sumBy : ByteArray := prog_13_method_47_code
def yX11_sumBy : MethodName := ⟨RX11, "sumBy", "(II)I"⟩
abbrev cX11_findBest : ByteArray := prog_13_method_48_code
def yX11_findBest : MethodName := ⟨RX11, "findBest", "(I)V"⟩
abbrev cX11_best : ByteArray := prog_13_method_49_code
def yX11_best : MethodName := ⟨RX11, "best", "(II)I"⟩
abbrev cX11_countsAll : ByteArray := prog_13_method_50_code
def yX11_countsAll : MethodName := ⟨RX11, "countsAll", "(IIII)I"⟩
abbrev cX11_pour : ByteArray := prog_13_method_51_code
def yX11_pour : MethodName := ⟨RX11, "pour", "(IIII)I"⟩
abbrev cX11_doesOwe : ByteArray := prog_13_method_52_code
def yX11_doesOwe : MethodName := ⟨RX11, "doesOwe", "(II)Z"⟩
abbrev cX11_strikesTwo : ByteArray := prog_13_method_53_code
def yX11_strikesTwo : MethodName := ⟨RX11, "strikesTwo", "()Z"⟩
abbrev cX11_strikesThree : ByteArray := prog_13_method_54_code
def yX11_strikesThree : MethodName := ⟨RX11, "strikesThree", "()Z"⟩
abbrev cX11_strike : ByteArray := prog_13_method_55_code
def yX11_strike : MethodName := ⟨RX11, "strike", "()I"⟩
abbrev cX11_owed : ByteArray := prog_13_method_56_code
def yX11_owed : MethodName := ⟨RX11, "owed", "(I)I"⟩
abbrev cX11_cheat : ByteArray := prog_13_method_57_code
def yX11_cheat : MethodName := ⟨RX11, "cheat", "(IIIII)I"⟩
abbrev cX11_dripped : ByteArray := prog_13_method_58_code
def yX11_dripped : MethodName := ⟨RX11, "dripped", "(IIII)I"⟩
abbrev cX11_row : ByteArray := prog_13_method_59_code
def yX11_row : MethodName := ⟨RX11, "row", "(I)I"⟩
abbrev cX11_judge : ByteArray := prog_13_method_60_code
def yX11_judge : MethodName := ⟨RX11, "judge", "()I"⟩
abbrev cX11_grainsOfAll : ByteArray := prog_13_method_61_code
def yX11_grainsOfAll : MethodName := ⟨RX11, "grainsOfAll", "()I"⟩
abbrev cX11_seeds : ByteArray := prog_13_method_62_code
def yX11_seeds : MethodName := ⟨RX11, "seeds", "(II)I"⟩
abbrev cX11_count : ByteArray := prog_13_method_63_code
def yX11_count : MethodName := ⟨RX11, "count", "(I)I"⟩
def RJ9 : String := "java/lang/Math"
def TJ9 : u_T := fun k => match k with
  | _ => ("", "", "", false)
def tyJ9 : Nat → FieldType := fun k => match k with
  | _ => .int
abbrev wsJ90 : List Cond := u_ws RJ9 TJ9 0
theorem nmJ9 : ∀ a, a < 0 → ∀ b, b < 0 → a ≠ b → (TJ9 a).2.1 ≠ (TJ9 b).2.1 := by decide +kernel
theorem tyJ9_ok : ∀ k, k < 0 → parseFieldDescriptor (TJ9 k).2.2.1 = some (tyJ9 k) := by decide +kernel
abbrev cJ9_max_7cf53 : ByteArray := prog_14_method_65_code
def yJ9_max_7cf53 : MethodName := ⟨RJ9, "max", "(II)I"⟩
abbrev cJ9_min_7cf53 : ByteArray := prog_14_method_69_code
def yJ9_min_7cf53 : MethodName := ⟨RJ9, "min", "(II)I"⟩
def RJ10 : String := "java/lang/System"
def TJ10 : u_T := fun k => match k with
  | _ => ("", "", "", false)
def tyJ10 : Nat → FieldType := fun k => match k with
  | _ => .int
abbrev wsJ100 : List Cond := u_ws RJ10 TJ10 0
theorem nmJ10 : ∀ a, a < 0 → ∀ b, b < 0 → a ≠ b → (TJ10 a).2.1 ≠ (TJ10 b).2.1 := by decide +kernel
theorem tyJ10_ok : ∀ k, k < 0 → parseFieldDescriptor (TJ10 k).2.2.1 = some (tyJ10 k) := by decide +kernel
def RL : String := "PaidInLightLaw"
abbrev cL_law : ByteArray := code
def yL_law : MethodName := ⟨RL, "law", "([I)Z"⟩
abbrev vwCl : List vw_C := [(RX0, TX0, 0), (RX1, TX1, 6), (RX2, TX2, 0), (RX3, TX3, 0), (RX4, TX4, 9), (RX5, TX5, 2), (RX6, TX6, 0), (RX7, TX7, 0), (RX8, TX8, 0), (RX9, TX9, 6), (RX10, TX10, 10), (RX11, TX11, 29)]
def lw_gd : List Cond := lw_tbl.filter goodWord
theorem gd_mem {w : Cond} (i : Nat) (h : lw_tbl[i]? = some w) (hg : goodWord w = true) : w ∈ lw_gd := List.mem_filter.mpr ⟨List.mem_of_getElem? h, hg⟩
theorem gd_good : GoodIn lw_gd lw_gd := fun w h => ⟨h, good_of_word (List.mem_filter.mp h).2⟩
end
section
/-! The machine's rows over a world of a fixed shape: n cells at addresses ad i, cell i is cf σ i, σ the numbers (cell, slot). A walk's goal is zW: 'if the pure text o answers (r, σ2), then from here the method returns r with the numbers σ2'. -/
abbrev zS : Type := Nat → Nat → Int32
def z_row (σ : zS) (i : Nat) (r : Nat → Int32) : zS := fun a => if a = i then r else σ a
def z_put (σ : zS) (i k : Nat) (v : Int32) : zS := z_row σ i (upd (σ i) k v)
theorem z_row_same (σ : zS) (i : Nat) (r : Nat → Int32) : z_row σ i r i = r := if_pos rfl
theorem z_row_ne (σ : zS) {i j : Nat} (r : Nat → Int32) (h : j ≠ i) : z_row σ i r j = σ j := if_neg h
theorem z_put_same (σ : zS) (i k : Nat) (v : Int32) : z_put σ i k v i = upd (σ i) k v := if_pos rfl
theorem z_put_ne (σ : zS) {i j : Nat} (k : Nat) (v : Int32) (h : j ≠ i) : z_put σ i k v j = σ j := if_neg h
def z_in (x : Int32) (n : Nat) : Bool := decide (0 ≤ x) && decide (x.toNatClampNeg < n)
def z_nz (x : Int32) : Bool := decide (¬ x = 0)
def z_bo (x : Int32) : Bool := decide (x = 0 ∨ x = 1)
theorem z_in_vp {x : Int32} {n : Nat} (h : z_in x n = true) : vp_in x n := by
  simp only [z_in, Bool.and_eq_true, decide_eq_true_eq] at h
  intro hh
  rcases hh with hh | hh
  · exact absurd hh (Int32.not_lt.mpr h.1)
  · omega
theorem z_bo_n {x : Int32} (h : z_bo x = true) : narrow .boolean (.int x) = .int x := by
  simp only [z_bo, decide_eq_true_eq] at h
  rcases h with rfl | rfl <;> rfl
theorem z_bo_f {x : Int32} (h : z_bo x = true) : fits .boolean (.int x) = true := by
  simp only [z_bo, decide_eq_true_eq] at h
  rcases h with rfl | rfl <;> rfl
abbrev zA : Type := Option (Int32 × zS)
def z_g (b : Bool) (o : zA) : zA := match b with
  | true => o
  | false => none
def z_b (o : zA) (k : Int32 → zS → zA) : zA := match o with
  | none => none
  | some q => k q.1 q.2
def z_n (x : Int32) (k : Int32 → zA) : zA := k x
def z_m (σ : zS) (k : zS → zA) : zA := k σ
def z_wl (n : Nat) (ad : Nat → Nat) (cf : zS → Nat → va_E) (σ : zS) : va_W := (List.range n).map (fun i => (ad i, cf σ i))
theorem z_wl_get {n : Nat} {ad : Nat → Nat} {cf : zS → Nat → va_E} {σ : zS} {i : Nat} (h : i < n) : (z_wl n ad cf σ)[i]? = some (ad i, cf σ i) := by
  simp [z_wl, h]
theorem z_wl_at {n : Nat} {ad : Nat → Nat} {cf : zS → Nat → va_E} {σ : zS} {i : Nat} {x : va_E} (h : i < n) (hc : cf σ i = x) : (z_wl n ad cf σ)[i]? = some (ad i, x) := by
  rw [z_wl_get h, hc]
def zO (A : Nat → Prop) (n : Nat) (ad : Nat → Nat) (cf : zS → Nat → va_E) : Prop := (∀ σ, va_D A (z_wl n ad cf σ)) ∧ ∀ (σ τ : zS) (i : Nat), σ i = τ i → cf σ i = cf τ i
theorem z_wl_set {n : Nat} {ad : Nat → Nat} {cf : zS → Nat → va_E} (hloc : ∀ (σ τ : zS) (i : Nat), σ i = τ i → cf σ i = cf τ i) {σ : zS} {i : Nat} {r : Nat → Int32} {x : va_E} (h : i < n) (hx : cf (z_row σ i r) i = x) : (z_wl n ad cf σ).set i (ad i, x) = z_wl n ad cf (z_row σ i r) := by
  apply List.ext_getElem?
  intro j
  by_cases hj : j = i
  · subst hj
    rw [List.getElem?_set_self (by simp [z_wl, h]), z_wl_get h, hx]
  · rw [List.getElem?_set_ne (Ne.symm hj)]
    by_cases hl : j < n
    · rw [z_wl_get hl, z_wl_get hl, hloc σ (z_row σ i r) j (z_row_ne σ r hj).symm]
    · rw [List.getElem?_eq_none (by simp [z_wl]; omega), List.getElem?_eq_none (by simp [z_wl]; omega)]
def zR (d : Nat) : Room := { frames := d, cells := 0, slots := 0, locals := 100 * d }
/-- the links to private methods of nest mates -/
def z_nest : List (String × Nat × MethodName × String) := [(RX10, 9, yX8_init, "PaidInLight"), (RX10, 12, yX0_init, "PaidInLight"), (RX0, 1, yX8_init, "PaidInLight"), (RX10, 15, yX2_init, "PaidInLight"), (RX2, 1, yX8_init, "PaidInLight"), (RX10, 18, yX7_init, "PaidInLight"), (RX7, 1, yX0_init, "PaidInLight"), (RX10, 21, yX6_init, "PaidInLight"), (RX6, 1, yX2_init, "PaidInLight"), (RX10, 24, yX3_init, "PaidInLight"), (RX3, 1, yX8_init, "PaidInLight"), (RX4, 21, yX1_init, "PaidInLight"), (RX10, 48, yX5_init, "PaidInLight"), (RX10, 55, yX9_init, "PaidInLight"), (RX4, 114, yX10_isKind, "PaidInLight"), (RX4, 118, yX10_isPerson, "PaidInLight"), (RX4, 121, yX10_areTwo, "PaidInLight"), (RX4, 99, yX10_pair, "PaidInLight"), (RX9, 59, yX10_pair, "PaidInLight")]
def zN (U : State) : Prop := ∀ q ∈ z_nest, va_Nw (.methodLinkNest q.1 q.2.1 q.2.2.1 q.2.2.2) U
theorem zN.same {u U : State} (h : u.vm = U.vm) (hz : zN u) : zN U := fun q hq => va_Nw.same rfl h (hz q hq)
theorem zN.warm {s U : State} (h : s.WarmedH U.vm) (hz : zN s) : zN U := fun q hq => va_Nw.warmM h (hz q hq)
abbrev zG : Type := Program × Env × Room × State × MethodId × Array Value × List Frame × Method × Code × Launch
abbrev gP (G : zG) : Program := G.1
abbrev gE (G : zG) : Env := G.2.1
abbrev gR (G : zG) : Room := G.2.2.1
abbrev gS (G : zG) : State := G.2.2.2.1
abbrev gM (G : zG) : MethodId := G.2.2.2.2.1
abbrev gA (G : zG) : Array Value := G.2.2.2.2.2.1
abbrev gB (G : zG) : List Frame := G.2.2.2.2.2.2.1
abbrev gH (G : zG) : Method := G.2.2.2.2.2.2.2.1
abbrev gC (G : zG) : Code := G.2.2.2.2.2.2.2.2.1
abbrev gL (G : zG) : Launch := G.2.2.2.2.2.2.2.2.2
def zQ (rt : Bool) (dC : Nat → ClassId) (dI : Nat → Nat → Nat) (A : Nat → Prop) (n : Nat) (ad : Nat → Nat) (cf : zS → Nat → va_E) (r : Int32) (τ : zS) : Array Value → State → Outcome → State → Prop := match rt with
  | true => va_Qi (fun (q : Int32) (_ : Unit) => q = r) (fun _ t => va_P (dC, dI) vwCl (z_wl n ad cf τ) t.heap) A
  | false => va_Qv (fun (_ : Unit) => True) (fun _ t => va_P (dC, dI) vwCl (z_wl n ad cf τ) t.heap) A
def zP (dC : Nat → ClassId) (dI : Nat → Nat → Nat) (n : Nat) (ad : Nat → Nat) (cf : zS → Nat → va_E) (tys : List (ClassId × FieldType)) (σ : zS) : State → Prop := fun U => va_P (dC, dI) vwCl (z_wl n ad cf σ) U.heap ∧ va_K (dC, dI) vwCl tys U ∧ zN U
/-- a method's contract: what the pure text o answers, it answers -/
def zM (l : Launch) (dC : Nat → ClassId) (dI : Nat → Nat → Nat) (A : Nat → Prop) (n : Nat) (ad : Nat → Nat) (cf : zS → Nat → va_E) (tys : List (ClassId × FieldType)) (rt : Bool) (y : MethodName) (bytes : ByteArray) (nL : Nat) (ret : Option FieldType) (d : Nat) (av : List Value) (σ : zS) (o : zA) : Prop :=
  ∀ (r : Int32) (τ : zS), o = some (r, τ) → Met l y (.code y bytes nL ret :: lw_gd) (zR d) (va_Pc av (zP dC dI n ad cf tys σ)) (zQ rt dC dI A n ad cf r τ) 0 0 A
def zC (G : zG) (dC : Nat → ClassId) (dI : Nat → Nat → Nat) (A : Nat → Prop) (n : Nat) (ad : Nat → Nat) (cf : zS → Nat → va_E) (tys : List (ClassId × FieldType)) (cc : ByteArray) (own : String) (nL d : Nat) (ret : Option FieldType) : Prop :=
  (gP G).tables.exec = Jvm.exec ∧ (gC G).code = cc ∧ (gC G).maxLocals = nL ∧ (gS G).vm.findClass own = some (gM G).cls ∧ (∀ w ∈ lw_gd, w.before (gA G) (gS G) = true) ∧ va_K (dC, dI) vwCl tys (gS G) ∧ zN (gS G) ∧ zO A n ad cf ∧ (gH G).locks = false ∧ gR G = zR d ∧ (gH G).sig.returnType = ret
def zW (G : zG) (dC : Nat → ClassId) (dI : Nat → Nat → Nat) (A : Nat → Prop) (n : Nat) (ad : Nat → Nat) (cf : zS → Nat → va_E) (nL : Nat) (rt : Bool) (o : zA) (σ : zS) (pc : Nat) (L : List (Nat × Value)) (st : List Value) : Prop :=
  ∀ (r : Int32) (τ : zS), o = some (r, τ) → ∀ (H : Heap) (locs : List Loc) (ls : Array Slot), va_P (dC, dI) vwCl (z_wl n ad cf σ) H → va_S A (gS G).heap H locs → lv_has ls nL L →
    W (gP G) (gL G) (gE G) (gR G) (gS G) (gM G) (gA G) (gB G) (gH G) (gC G) H locs 0 0 (MQ (gB G) (zQ rt dC dI A n ad cf r τ) (gA G) (gS G) 0 0 A) (F0 (gM G) pc ls st)
section ZR
variable {G : zG} {dC : Nat → ClassId} {dI : Nat → Nat → Nat} {A : Nat → Prop} {n : Nat} {ad : Nat → Nat} {cf : zS → Nat → va_E} {tys : List (ClassId × FieldType)} {cc : ByteArray} {own : String} {nL d : Nat} {ret : Option FieldType} {rt : Bool} {o o1 o2 : zA} {σ : zS} {pc : Nat} {L L1 : List (Nat × Value)} {st : List Value} {x y v : Int32}
theorem zC.hx (C : zC G dC dI A n ad cf tys cc own nL d ret) : (gP G).tables.exec = Jvm.exec := C.1
theorem zC.hb (C : zC G dC dI A n ad cf tys cc own nL d ret) : (gC G).code = cc := C.2.1
theorem zC.hml (C : zC G dC dI A n ad cf tys cc own nL d ret) : (gC G).maxLocals = nL := C.2.2.1
theorem zC.hown (C : zC G dC dI A n ad cf tys cc own nL d ret) : (gS G).vm.findClass own = some (gM G).cls := C.2.2.2.1
theorem zC.hts (C : zC G dC dI A n ad cf tys cc own nL d ret) : ∀ w ∈ lw_gd, w.before (gA G) (gS G) = true := C.2.2.2.2.1
theorem zC.hK (C : zC G dC dI A n ad cf tys cc own nL d ret) : va_K (dC, dI) vwCl tys (gS G) := C.2.2.2.2.2.1
theorem zC.hN (C : zC G dC dI A n ad cf tys cc own nL d ret) : zN (gS G) := C.2.2.2.2.2.2.1
theorem zC.hO (C : zC G dC dI A n ad cf tys cc own nL d ret) : zO A n ad cf := C.2.2.2.2.2.2.2.1
theorem zC.hlk (C : zC G dC dI A n ad cf tys cc own nL d ret) : (gH G).locks = false := C.2.2.2.2.2.2.2.2.1
theorem zC.hR (C : zC G dC dI A n ad cf tys cc own nL d ret) : gR G = zR d := C.2.2.2.2.2.2.2.2.2.1
theorem zC.hr (C : zC G dC dI A n ad cf tys cc own nL d ret) : (gH G).sig.returnType = ret := C.2.2.2.2.2.2.2.2.2.2
theorem zx_none {pc : Nat} : zW G dC dI A n ad cf nL rt none σ pc L st := fun _ _ h => nomatch h
theorem zx_eq (h : o1 = o) (k : zW G dC dI A n ad cf nL rt o σ pc L st) : zW G dC dI A n ad cf nL rt o1 σ pc L st := h ▸ k
theorem zx_sub (ks : List Nat) (h : lv_pick L ks = L1) (k : zW G dC dI A n ad cf nL rt o σ pc L1 st) : zW G dC dI A n ad cf nL rt o σ pc L st := fun r τ ho H locs ls hP hS hl => k r τ ho H locs ls hP hS (lv_sub hl ks h)
theorem zx_ite {c : Prop} {dc : Decidable c} (kt : c → zW G dC dI A n ad cf nL rt o1 σ pc L st) (kf : ¬ c → zW G dC dI A n ad cf nL rt o2 σ pc L st) : zW G dC dI A n ad cf nL rt (@ite _ c dc o1 o2) σ pc L st := by
  by_cases h : c
  · rw [if_pos h]; exact kt h
  · rw [if_neg h]; exact kf h
theorem zx_g {b : Bool} (k : b = true → zW G dC dI A n ad cf nL rt o σ pc L st) : zW G dC dI A n ad cf nL rt (z_g b o) σ pc L st := by
  cases b with
  | true => exact k rfl
  | false => exact zx_none
theorem zx_n {K : Int32 → zA} (k : ∀ z : Int32, zW G dC dI A n ad cf nL rt (K z) σ pc L (.int z :: st)) : zW G dC dI A n ad cf nL rt (z_n x K) σ pc L (.int x :: st) := k x
theorem zx_m {K : zS → zA} (k : ∀ τ : zS, zW G dC dI A n ad cf nL rt (K τ) τ pc L st) : zW G dC dI A n ad cf nL rt (z_m σ K) σ pc L st := k σ
theorem zx_iadd (C : zC G dC dI A n ad cf tys cc own nL d ret) (hd : decode cc pc = .ok (.iadd, 1)) (k : zW G dC dI A n ad cf nL rt o σ (pc + 1) L (.int (x + y) :: st)) : zW G dC dI A n ad cf nL rt o σ pc L (.int y :: .int x :: st) := fun r τ ho H locs ls hP hS hl => lv_iadd C.hx C.hb hd (k r τ ho H locs ls hP hS hl)
theorem zx_isub (C : zC G dC dI A n ad cf tys cc own nL d ret) (hd : decode cc pc = .ok (.isub, 1)) (k : zW G dC dI A n ad cf nL rt o σ (pc + 1) L (.int (x - y) :: st)) : zW G dC dI A n ad cf nL rt o σ pc L (.int y :: .int x :: st) := fun r τ ho H locs ls hP hS hl => lv_isub C.hx C.hb hd (k r τ ho H locs ls hP hS hl)
theorem zx_imul (C : zC G dC dI A n ad cf tys cc own nL d ret) (hd : decode cc pc = .ok (.imul, 1)) (k : zW G dC dI A n ad cf nL rt o σ (pc + 1) L (.int (x * y) :: st)) : zW G dC dI A n ad cf nL rt o σ pc L (.int y :: .int x :: st) := fun r τ ho H locs ls hP hS hl => lv_imul C.hx C.hb hd (k r τ ho H locs ls hP hS hl)
theorem zx_iand (C : zC G dC dI A n ad cf tys cc own nL d ret) (hd : decode cc pc = .ok (.iand, 1)) (k : zW G dC dI A n ad cf nL rt o σ (pc + 1) L (.int (x &&& y) :: st)) : zW G dC dI A n ad cf nL rt o σ pc L (.int y :: .int x :: st) := fun r τ ho H locs ls hP hS hl => lv_iand C.hx C.hb hd (k r τ ho H locs ls hP hS hl)
theorem zx_ior (C : zC G dC dI A n ad cf tys cc own nL d ret) (hd : decode cc pc = .ok (.ior, 1)) (k : zW G dC dI A n ad cf nL rt o σ (pc + 1) L (.int (x ||| y) :: st)) : zW G dC dI A n ad cf nL rt o σ pc L (.int y :: .int x :: st) := fun r τ ho H locs ls hP hS hl => lv_ior C.hx C.hb hd (k r τ ho H locs ls hP hS hl)
theorem zx_ixor (C : zC G dC dI A n ad cf tys cc own nL d ret) (hd : decode cc pc = .ok (.ixor, 1)) (k : zW G dC dI A n ad cf nL rt o σ (pc + 1) L (.int (x ^^^ y) :: st)) : zW G dC dI A n ad cf nL rt o σ pc L (.int y :: .int x :: st) := fun r τ ho H locs ls hP hS hl => lv_ixor C.hx C.hb hd (k r τ ho H locs ls hP hS hl)
theorem zx_ishl (C : zC G dC dI A n ad cf tys cc own nL d ret) (hd : decode cc pc = .ok (.ishl, 1)) (k : zW G dC dI A n ad cf nL rt o σ (pc + 1) L (.int (x <<< (y &&& 31)) :: st)) : zW G dC dI A n ad cf nL rt o σ pc L (.int y :: .int x :: st) := fun r τ ho H locs ls hP hS hl => lv_ishl C.hx C.hb hd (k r τ ho H locs ls hP hS hl)
theorem zx_ishr (C : zC G dC dI A n ad cf tys cc own nL d ret) (hd : decode cc pc = .ok (.ishr, 1)) (k : zW G dC dI A n ad cf nL rt o σ (pc + 1) L (.int (x >>> (y &&& 31)) :: st)) : zW G dC dI A n ad cf nL rt o σ pc L (.int y :: .int x :: st) := fun r τ ho H locs ls hP hS hl => lv_ishr C.hx C.hb hd (k r τ ho H locs ls hP hS hl)
theorem zx_ineg (C : zC G dC dI A n ad cf tys cc own nL d ret) (hd : decode cc pc = .ok (.ineg, 1)) (k : zW G dC dI A n ad cf nL rt o σ (pc + 1) L (.int (-x) :: st)) : zW G dC dI A n ad cf nL rt o σ pc L (.int x :: st) := fun r τ ho H locs ls hP hS hl => lv_ineg C.hx C.hb hd (k r τ ho H locs ls hP hS hl)
theorem zx_if_eq (C : zC G dC dI A n ad cf tys cc own nL d ret) {off : Int} {tgt : Nat} (hd : decode cc pc = .ok (.ifCond .eq off, 3)) (ht : (pc : Int) + off = (tgt : Int)) (kt : x = 0 → zW G dC dI A n ad cf nL rt o1 σ tgt L st) (kf : ¬ x = 0 → zW G dC dI A n ad cf nL rt o2 σ (pc + 3) L st) : zW G dC dI A n ad cf nL rt (if x = 0 then o1 else o2) σ pc L (.int x :: st) := fun r τ ho H locs ls hP hS hl => lv_if_eq C.hx C.hb hd ht (fun h => kt h r τ (by first | rwa [if_pos h] at ho | rwa [if_neg h] at ho) H locs ls hP hS hl) (fun h => kf h r τ (by first | rwa [if_neg h] at ho | rwa [if_pos h] at ho) H locs ls hP hS hl)
theorem zx_if_ne (C : zC G dC dI A n ad cf tys cc own nL d ret) {off : Int} {tgt : Nat} (hd : decode cc pc = .ok (.ifCond .ne off, 3)) (ht : (pc : Int) + off = (tgt : Int)) (kt : ¬ x = 0 → zW G dC dI A n ad cf nL rt o1 σ tgt L st) (kf : x = 0 → zW G dC dI A n ad cf nL rt o2 σ (pc + 3) L st) : zW G dC dI A n ad cf nL rt (if x = 0 then o2 else o1) σ pc L (.int x :: st) := fun r τ ho H locs ls hP hS hl => lv_if_ne C.hx C.hb hd ht (fun h => kt h r τ (by first | rwa [if_pos h] at ho | rwa [if_neg h] at ho) H locs ls hP hS hl) (fun h => kf h r τ (by first | rwa [if_neg h] at ho | rwa [if_pos h] at ho) H locs ls hP hS hl)
theorem zx_if_lt (C : zC G dC dI A n ad cf tys cc own nL d ret) {off : Int} {tgt : Nat} (hd : decode cc pc = .ok (.ifCond .lt off, 3)) (ht : (pc : Int) + off = (tgt : Int)) (kt : x < 0 → zW G dC dI A n ad cf nL rt o1 σ tgt L st) (kf : ¬ x < 0 → zW G dC dI A n ad cf nL rt o2 σ (pc + 3) L st) : zW G dC dI A n ad cf nL rt (if x < 0 then o1 else o2) σ pc L (.int x :: st) := fun r τ ho H locs ls hP hS hl => lv_if_lt C.hx C.hb hd ht (fun h => kt h r τ (by first | rwa [if_pos h] at ho | rwa [if_neg h] at ho) H locs ls hP hS hl) (fun h => kf h r τ (by first | rwa [if_neg h] at ho | rwa [if_pos h] at ho) H locs ls hP hS hl)
theorem zx_if_ge (C : zC G dC dI A n ad cf tys cc own nL d ret) {off : Int} {tgt : Nat} (hd : decode cc pc = .ok (.ifCond .ge off, 3)) (ht : (pc : Int) + off = (tgt : Int)) (kt : 0 ≤ x → zW G dC dI A n ad cf nL rt o1 σ tgt L st) (kf : ¬ 0 ≤ x → zW G dC dI A n ad cf nL rt o2 σ (pc + 3) L st) : zW G dC dI A n ad cf nL rt (if 0 ≤ x then o1 else o2) σ pc L (.int x :: st) := fun r τ ho H locs ls hP hS hl => lv_if_ge C.hx C.hb hd ht (fun h => kt h r τ (by first | rwa [if_pos h] at ho | rwa [if_neg h] at ho) H locs ls hP hS hl) (fun h => kf h r τ (by first | rwa [if_neg h] at ho | rwa [if_pos h] at ho) H locs ls hP hS hl)
theorem zx_if_gt (C : zC G dC dI A n ad cf tys cc own nL d ret) {off : Int} {tgt : Nat} (hd : decode cc pc = .ok (.ifCond .gt off, 3)) (ht : (pc : Int) + off = (tgt : Int)) (kt : 0 < x → zW G dC dI A n ad cf nL rt o1 σ tgt L st) (kf : ¬ 0 < x → zW G dC dI A n ad cf nL rt o2 σ (pc + 3) L st) : zW G dC dI A n ad cf nL rt (if 0 < x then o1 else o2) σ pc L (.int x :: st) := fun r τ ho H locs ls hP hS hl => lv_if_gt C.hx C.hb hd ht (fun h => kt h r τ (by first | rwa [if_pos h] at ho | rwa [if_neg h] at ho) H locs ls hP hS hl) (fun h => kf h r τ (by first | rwa [if_neg h] at ho | rwa [if_pos h] at ho) H locs ls hP hS hl)
theorem zx_if_le (C : zC G dC dI A n ad cf tys cc own nL d ret) {off : Int} {tgt : Nat} (hd : decode cc pc = .ok (.ifCond .le off, 3)) (ht : (pc : Int) + off = (tgt : Int)) (kt : x ≤ 0 → zW G dC dI A n ad cf nL rt o1 σ tgt L st) (kf : ¬ x ≤ 0 → zW G dC dI A n ad cf nL rt o2 σ (pc + 3) L st) : zW G dC dI A n ad cf nL rt (if x ≤ 0 then o1 else o2) σ pc L (.int x :: st) := fun r τ ho H locs ls hP hS hl => lv_if_le C.hx C.hb hd ht (fun h => kt h r τ (by first | rwa [if_pos h] at ho | rwa [if_neg h] at ho) H locs ls hP hS hl) (fun h => kf h r τ (by first | rwa [if_neg h] at ho | rwa [if_pos h] at ho) H locs ls hP hS hl)
theorem zx_icmp_eq (C : zC G dC dI A n ad cf tys cc own nL d ret) {off : Int} {tgt : Nat} (hd : decode cc pc = .ok (.if_icmp .eq off, 3)) (ht : (pc : Int) + off = (tgt : Int)) (kt : x = y → zW G dC dI A n ad cf nL rt o1 σ tgt L st) (kf : ¬ x = y → zW G dC dI A n ad cf nL rt o2 σ (pc + 3) L st) : zW G dC dI A n ad cf nL rt (if x = y then o1 else o2) σ pc L (.int y :: .int x :: st) := fun r τ ho H locs ls hP hS hl => lv_icmp_eq C.hx C.hb hd ht (fun h => kt h r τ (by first | rwa [if_pos h] at ho | rwa [if_neg h] at ho) H locs ls hP hS hl) (fun h => kf h r τ (by first | rwa [if_neg h] at ho | rwa [if_pos h] at ho) H locs ls hP hS hl)
theorem zx_icmp_ne (C : zC G dC dI A n ad cf tys cc own nL d ret) {off : Int} {tgt : Nat} (hd : decode cc pc = .ok (.if_icmp .ne off, 3)) (ht : (pc : Int) + off = (tgt : Int)) (kt : ¬ x = y → zW G dC dI A n ad cf nL rt o1 σ tgt L st) (kf : x = y → zW G dC dI A n ad cf nL rt o2 σ (pc + 3) L st) : zW G dC dI A n ad cf nL rt (if x = y then o2 else o1) σ pc L (.int y :: .int x :: st) := fun r τ ho H locs ls hP hS hl => lv_icmp_ne C.hx C.hb hd ht (fun h => kt h r τ (by first | rwa [if_pos h] at ho | rwa [if_neg h] at ho) H locs ls hP hS hl) (fun h => kf h r τ (by first | rwa [if_neg h] at ho | rwa [if_pos h] at ho) H locs ls hP hS hl)
theorem zx_icmp_lt (C : zC G dC dI A n ad cf tys cc own nL d ret) {off : Int} {tgt : Nat} (hd : decode cc pc = .ok (.if_icmp .lt off, 3)) (ht : (pc : Int) + off = (tgt : Int)) (kt : x < y → zW G dC dI A n ad cf nL rt o1 σ tgt L st) (kf : ¬ x < y → zW G dC dI A n ad cf nL rt o2 σ (pc + 3) L st) : zW G dC dI A n ad cf nL rt (if x < y then o1 else o2) σ pc L (.int y :: .int x :: st) := fun r τ ho H locs ls hP hS hl => lv_icmp_lt C.hx C.hb hd ht (fun h => kt h r τ (by first | rwa [if_pos h] at ho | rwa [if_neg h] at ho) H locs ls hP hS hl) (fun h => kf h r τ (by first | rwa [if_neg h] at ho | rwa [if_pos h] at ho) H locs ls hP hS hl)
theorem zx_icmp_ge (C : zC G dC dI A n ad cf tys cc own nL d ret) {off : Int} {tgt : Nat} (hd : decode cc pc = .ok (.if_icmp .ge off, 3)) (ht : (pc : Int) + off = (tgt : Int)) (kt : y ≤ x → zW G dC dI A n ad cf nL rt o1 σ tgt L st) (kf : ¬ y ≤ x → zW G dC dI A n ad cf nL rt o2 σ (pc + 3) L st) : zW G dC dI A n ad cf nL rt (if y ≤ x then o1 else o2) σ pc L (.int y :: .int x :: st) := fun r τ ho H locs ls hP hS hl => lv_icmp_ge C.hx C.hb hd ht (fun h => kt h r τ (by first | rwa [if_pos h] at ho | rwa [if_neg h] at ho) H locs ls hP hS hl) (fun h => kf h r τ (by first | rwa [if_neg h] at ho | rwa [if_pos h] at ho) H locs ls hP hS hl)
theorem zx_icmp_gt (C : zC G dC dI A n ad cf tys cc own nL d ret) {off : Int} {tgt : Nat} (hd : decode cc pc = .ok (.if_icmp .gt off, 3)) (ht : (pc : Int) + off = (tgt : Int)) (kt : y < x → zW G dC dI A n ad cf nL rt o1 σ tgt L st) (kf : ¬ y < x → zW G dC dI A n ad cf nL rt o2 σ (pc + 3) L st) : zW G dC dI A n ad cf nL rt (if y < x then o1 else o2) σ pc L (.int y :: .int x :: st) := fun r τ ho H locs ls hP hS hl => lv_icmp_gt C.hx C.hb hd ht (fun h => kt h r τ (by first | rwa [if_pos h] at ho | rwa [if_neg h] at ho) H locs ls hP hS hl) (fun h => kf h r τ (by first | rwa [if_neg h] at ho | rwa [if_pos h] at ho) H locs ls hP hS hl)
theorem zx_icmp_le (C : zC G dC dI A n ad cf tys cc own nL d ret) {off : Int} {tgt : Nat} (hd : decode cc pc = .ok (.if_icmp .le off, 3)) (ht : (pc : Int) + off = (tgt : Int)) (kt : x ≤ y → zW G dC dI A n ad cf nL rt o1 σ tgt L st) (kf : ¬ x ≤ y → zW G dC dI A n ad cf nL rt o2 σ (pc + 3) L st) : zW G dC dI A n ad cf nL rt (if x ≤ y then o1 else o2) σ pc L (.int y :: .int x :: st) := fun r τ ho H locs ls hP hS hl => lv_icmp_le C.hx C.hb hd ht (fun h => kt h r τ (by first | rwa [if_pos h] at ho | rwa [if_neg h] at ho) H locs ls hP hS hl) (fun h => kf h r τ (by first | rwa [if_neg h] at ho | rwa [if_pos h] at ho) H locs ls hP hS hl)
theorem zx_iconst (C : zC G dC dI A n ad cf tys cc own nL d ret) {i : Int} (hd : decode cc pc = .ok (.iconst i, 1)) (hv : Int32.ofInt i = v) (k : zW G dC dI A n ad cf nL rt o σ (pc + 1) L (.int v :: st)) : zW G dC dI A n ad cf nL rt o σ pc L st := fun r τ ho H locs ls hP hS hl => lv_iconst C.hx C.hb hd hv (k r τ ho H locs ls hP hS hl)
theorem zx_bipush (C : zC G dC dI A n ad cf tys cc own nL d ret) {i : Int} (hd : decode cc pc = .ok (.bipush i, 2)) (hv : (Int8.ofInt i).toInt32 = v) (k : zW G dC dI A n ad cf nL rt o σ (pc + 2) L (.int v :: st)) : zW G dC dI A n ad cf nL rt o σ pc L st := fun r τ ho H locs ls hP hS hl => lv_bipush C.hx C.hb hd hv (k r τ ho H locs ls hP hS hl)
theorem zx_sipush (C : zC G dC dI A n ad cf tys cc own nL d ret) {i : Int} (hd : decode cc pc = .ok (.sipush i, 3)) (hv : (Int16.ofInt i).toInt32 = v) (k : zW G dC dI A n ad cf nL rt o σ (pc + 3) L (.int v :: st)) : zW G dC dI A n ad cf nL rt o σ pc L st := fun r τ ho H locs ls hP hS hl => lv_sipush C.hx C.hb hd hv (k r τ ho H locs ls hP hS hl)
theorem zx_ldc (C : zC G dC dI A n ad cf tys cc own nL d ret) {i : Nat} (hd : decode cc pc = .ok (.ldc i, 2)) (hw : Cond.constant own i v ∈ lw_gd) (k : zW G dC dI A n ad cf nL rt o σ (pc + 2) L (.int v :: st)) : zW G dC dI A n ad cf nL rt o σ pc L st := fun r τ ho H locs ls hP hS hl => lv_ldc C.hx C.hb C.hown (C.hts _ hw) hd (k r τ ho H locs ls hP hS hl)
theorem zx_iload_n (C : zC G dC dI A n ad cf tys cc own nL d ret) (k : Nat) {f : Fin 4} {i : Nat} (hd : decode cc pc = .ok (.iload_n f, 1)) (hf : (f : Nat) = i) (hk : L[k]? = some (i, .int x)) (kk : zW G dC dI A n ad cf nL rt o σ (pc + 1) L (.int x :: st)) : zW G dC dI A n ad cf nL rt o σ pc L st := fun r τ ho H locs ls hP hS hl => lv_iload_n C.hx C.hb hd hf (lv_at hl k hk) (kk r τ ho H locs ls hP hS hl)
theorem zx_iload (C : zC G dC dI A n ad cf tys cc own nL d ret) (k : Nat) {i : Nat} (hd : decode cc pc = .ok (.iload i, 2)) (hk : L[k]? = some (i, .int x)) (kk : zW G dC dI A n ad cf nL rt o σ (pc + 2) L (.int x :: st)) : zW G dC dI A n ad cf nL rt o σ pc L st := fun r τ ho H locs ls hP hS hl => lv_iload C.hx C.hb hd (lv_at hl k hk) (kk r τ ho H locs ls hP hS hl)
theorem zx_aload_n (C : zC G dC dI A n ad cf tys cc own nL d ret) (k : Nat) {f : Fin 4} {i a : Nat} (hd : decode cc pc = .ok (.aload_n f, 1)) (hf : (f : Nat) = i) (hk : L[k]? = some (i, .ref a)) (kk : zW G dC dI A n ad cf nL rt o σ (pc + 1) L (.ref a :: st)) : zW G dC dI A n ad cf nL rt o σ pc L st := fun r τ ho H locs ls hP hS hl => lv_aload_n C.hx C.hb hd hf (lv_at hl k hk) (kk r τ ho H locs ls hP hS hl)
theorem zx_aload (C : zC G dC dI A n ad cf tys cc own nL d ret) (k : Nat) {i a : Nat} (hd : decode cc pc = .ok (.aload i, 2)) (hk : L[k]? = some (i, .ref a)) (kk : zW G dC dI A n ad cf nL rt o σ (pc + 2) L (.ref a :: st)) : zW G dC dI A n ad cf nL rt o σ pc L st := fun r τ ho H locs ls hP hS hl => lv_aload C.hx C.hb hd (lv_at hl k hk) (kk r τ ho H locs ls hP hS hl)
def z_fl (i : Nat) (q : Nat × Value) : Bool := !(q.1 == i) && !(q.1 + 1 == i && q.2.category == 2)
theorem zx_istore_n (C : zC G dC dI A n ad cf tys cc own nL d ret) {f : Fin 4} {i : Nat} (hd : decode cc pc = .ok (.istore_n f, 1)) (hf : (f : Nat) = i) (hn : i < nL) (hL : (i, Value.int x) :: L.filter (z_fl i) = L1) (kk : zW G dC dI A n ad cf nL rt o σ (pc + 1) L1 st) : zW G dC dI A n ad cf nL rt o σ pc L (.int x :: st) := fun r τ ho H locs ls hP hS hl => lv_istore_n C.hx C.hb hd hf hl hn hL (fun ls hl => kk r τ ho H locs ls hP hS hl)
theorem zx_istore (C : zC G dC dI A n ad cf tys cc own nL d ret) {i : Nat} (hd : decode cc pc = .ok (.istore i, 2)) (hn : i < nL) (hL : (i, Value.int x) :: L.filter (z_fl i) = L1) (kk : zW G dC dI A n ad cf nL rt o σ (pc + 2) L1 st) : zW G dC dI A n ad cf nL rt o σ pc L (.int x :: st) := fun r τ ho H locs ls hP hS hl => lv_istore C.hx C.hb hd hl hn hL (fun ls hl => kk r τ ho H locs ls hP hS hl)
theorem zx_astore_n (C : zC G dC dI A n ad cf tys cc own nL d ret) {f : Fin 4} {i a : Nat} (hd : decode cc pc = .ok (.astore_n f, 1)) (hf : (f : Nat) = i) (hn : i < nL) (hL : (i, Value.ref a) :: L.filter (z_fl i) = L1) (kk : zW G dC dI A n ad cf nL rt o σ (pc + 1) L1 st) : zW G dC dI A n ad cf nL rt o σ pc L (.ref a :: st) := fun r τ ho H locs ls hP hS hl => lv_astore_n C.hx C.hb hd hf hl hn hL (fun ls hl => kk r τ ho H locs ls hP hS hl)
theorem zx_astore (C : zC G dC dI A n ad cf tys cc own nL d ret) {i a : Nat} (hd : decode cc pc = .ok (.astore i, 2)) (hn : i < nL) (hL : (i, Value.ref a) :: L.filter (z_fl i) = L1) (kk : zW G dC dI A n ad cf nL rt o σ (pc + 2) L1 st) : zW G dC dI A n ad cf nL rt o σ pc L (.ref a :: st) := fun r τ ho H locs ls hP hS hl => lv_astore C.hx C.hb hd hl hn hL (fun ls hl => kk r τ ho H locs ls hP hS hl)
theorem zx_iinc (C : zC G dC dI A n ad cf tys cc own nL d ret) (k : Nat) {i : Nat} {j : Int} (hd : decode cc pc = .ok (.iinc i j, 3)) (hk : L[k]? = some (i, .int x)) (hv : x + Int32.ofInt j = v) (hn : i < nL) (hL : (i, Value.int v) :: L.filter (z_fl i) = L1) (kk : zW G dC dI A n ad cf nL rt o σ (pc + 3) L1 st) : zW G dC dI A n ad cf nL rt o σ pc L st := fun r τ ho H locs ls hP hS hl => lv_iinc C.hx C.hb hd hl hk hv hn hL (fun ls hl => kk r τ ho H locs ls hP hS hl)
theorem zx_goto (C : zC G dC dI A n ad cf tys cc own nL d ret) {off : Int} {tgt : Nat} (hd : decode cc pc = .ok (.goto off, 3)) (ht : (pc : Int) + off = (tgt : Int)) (kk : zW G dC dI A n ad cf nL rt o σ tgt L st) : zW G dC dI A n ad cf nL rt o σ pc L st := fun r τ ho H locs ls hP hS hl => lv_goto C.hx C.hb hd ht (kk r τ ho H locs ls hP hS hl)
theorem zx_dup (C : zC G dC dI A n ad cf tys cc own nL d ret) {u : Value} (hd : decode cc pc = .ok (.dup, 1)) (hu : u.category = 1) (kk : zW G dC dI A n ad cf nL rt o σ (pc + 1) L (u :: u :: st)) : zW G dC dI A n ad cf nL rt o σ pc L (u :: st) := fun r τ ho H locs ls hP hS hl => lv_dup C.hx C.hb hd hu (kk r τ ho H locs ls hP hS hl)
theorem zx_pop (C : zC G dC dI A n ad cf tys cc own nL d ret) {u : Value} (hd : decode cc pc = .ok (.pop, 1)) (hu : u.category = 1) (kk : zW G dC dI A n ad cf nL rt o σ (pc + 1) L st) : zW G dC dI A n ad cf nL rt o σ pc L (u :: st) := fun r τ ho H locs ls hP hS hl => lv_pop C.hx C.hb hd hu (kk r τ ho H locs ls hP hS hl)
theorem zx_dup2 (C : zC G dC dI A n ad cf tys cc own nL d ret) {u w : Value} (hd : decode cc pc = .ok (.dup2, 1)) (hu : u.category = 1) (hw : w.category = 1) (kk : zW G dC dI A n ad cf nL rt o σ (pc + 1) L (u :: w :: u :: w :: st)) : zW G dC dI A n ad cf nL rt o σ pc L (u :: w :: st) := fun r τ ho H locs ls hP hS hl => lv_dup2_11 C.hx C.hb hd hu hw (kk r τ ho H locs ls hP hS hl)
theorem zx_idiv (C : zC G dC dI A n ad cf tys cc own nL d ret) (hd : decode cc pc = .ok (.idiv, 1)) (hy : ¬ y = 0) (kk : zW G dC dI A n ad cf nL rt o σ (pc + 1) L (.int (x / y) :: st)) : zW G dC dI A n ad cf nL rt o σ pc L (.int y :: .int x :: st) := fun r τ ho H locs ls hP hS hl => lv_idiv C.hx C.hb hd hy (kk r τ ho H locs ls hP hS hl)
theorem zx_irem (C : zC G dC dI A n ad cf tys cc own nL d ret) (hd : decode cc pc = .ok (.irem, 1)) (hy : ¬ y = 0) (kk : zW G dC dI A n ad cf nL rt o σ (pc + 1) L (.int (x - x / y * y) :: st)) : zW G dC dI A n ad cf nL rt o σ pc L (.int y :: .int x :: st) := fun r τ ho H locs ls hP hS hl => lv_irem C.hx C.hb hd hy (kk r τ ho H locs ls hP hS hl)
theorem zx_iremg (C : zC G dC dI A n ad cf tys cc own nL d ret) (hd : decode cc pc = .ok (.irem, 1)) (kk : zW G dC dI A n ad cf nL rt o σ (pc + 1) L (.int (x - x / y * y) :: st)) : zW G dC dI A n ad cf nL rt (z_g (z_nz y) o) σ pc L (.int y :: .int x :: st) := zx_g (fun h => zx_irem C hd (by simpa [z_nz] using h) kk)
theorem zx_tableIn (C : zC G dC dI A n ad cf tys cc own nL d ret) {df lo hi : Int} {offs : Array Int} {len : Nat} {off : Int} {tgt : Nat} (hd : decode cc pc = .ok (.tableswitch df lo hi offs, len)) (h1 : ¬ x.toInt < lo) (h2 : ¬ hi < x.toInt) (ho1 : offs[(x.toInt - lo).toNat]? = some off) (ht : (pc : Int) + off = (tgt : Int)) (kk : zW G dC dI A n ad cf nL rt o σ tgt L st) : zW G dC dI A n ad cf nL rt o σ pc L (.int x :: st) := fun r τ ho H locs ls hP hS hl => lv_tableIn C.hx C.hb hd h1 h2 ho1 ht (kk r τ ho H locs ls hP hS hl)
theorem zx_tableOut (C : zC G dC dI A n ad cf tys cc own nL d ret) {df lo hi : Int} {offs : Array Int} {len : Nat} {tgt : Nat} (hd : decode cc pc = .ok (.tableswitch df lo hi offs, len)) (h : x.toInt < lo ∨ hi < x.toInt) (ht : (pc : Int) + df = (tgt : Int)) (kk : zW G dC dI A n ad cf nL rt o σ tgt L st) : zW G dC dI A n ad cf nL rt o σ pc L (.int x :: st) := fun r τ ho H locs ls hP hS hl => lv_tableOut C.hx C.hb hd h ht (kk r τ ho H locs ls hP hS hl)
theorem zx_lookup (C : zC G dC dI A n ad cf tys cc own nL d ret) {df : Int} {ps : Array (Int × Int)} {len : Nat} {off : Int} {tgt : Nat} (hd : decode cc pc = .ok (.lookupswitch df ps, len)) (hp : (ps.toList.zip (ps.toList.drop 1)).all (fun (a, next) => a.1 < next.1) = true) (ho1 : Op.lookupswitch.offset ps.toList df x.toInt = off) (ht : (pc : Int) + off = (tgt : Int)) (kk : zW G dC dI A n ad cf nL rt o σ tgt L st) : zW G dC dI A n ad cf nL rt o σ pc L (.int x :: st) := fun r τ ho H locs ls hP hS hl => lv_lookup C.hx C.hb hd hp ho1 ht (kk r τ ho H locs ls hP hS hl)
theorem z_out {lo hi : Int} (h : ∀ c : Int, lo ≤ c → c ≤ hi → x ≠ Int32.ofInt c) : x.toInt < lo ∨ hi < x.toInt := by
  by_cases h1 : x.toInt < lo
  · exact Or.inl h1
  · by_cases h2 : hi < x.toInt
    · exact Or.inr h2
    · exact absurd (Int32.ofInt_toInt x).symm (h x.toInt (by omega) (by omega))
theorem zx_get (C : zC G dC dI A n ad cf tys cc own nL d ret) {id ci index : Nat} (k : Nat) {fs : List Value} {u : Value} {ref Cn : String} {T : u_T} {N : Nat} (hi : id < n) (hc : cf σ id = .inr (ci, fs)) (hcl : vwCl[ci]? = some (Cn, T, N)) (hk : k < N) (hin : ∀ w ∈ u_ws Cn T N, w ∈ lw_gd) (hw : Cond.fieldLink own index ref (T k).2.1 (T k).2.2.1 ∈ lw_gd) (href : (T k).1 = ref) (hv : fs[k]? = some u) (hd : decode cc pc = .ok (.getfield index, 3)) (kk : zW G dC dI A n ad cf nL rt o σ (pc + 3) L (u :: st)) : zW G dC dI A n ad cf nL rt o σ pc L (.ref (ad id) :: st) := fun r τ ho H locs ls hP hS hl =>
  va_get C.hx C.hb C.hts hin C.hown C.hK hP id (z_wl_at hi hc) hcl k hk (C.hts _ hw) (by subst href; exact fun _ h => h) hv hd (kk r τ ho H locs ls hP hS hl)
theorem zx_put (C : zC G dC dI A n ad cf tys cc own nL d ret) {id ci index : Nat} (k : Nat) {fs : List Value} {ref Cn : String} {T : u_T} {N : Nat} {K : zS → zA} {ty : FieldType} (hi : id < n) (hc : cf σ id = .inr (ci, fs)) (hcl : vwCl[ci]? = some (Cn, T, N)) (hk : k < N) (hin : ∀ w ∈ u_ws Cn T N, w ∈ lw_gd) (ty0 : Nat → FieldType) (hty : ∀ k, k < N → parseFieldDescriptor (T k).2.2.1 = some (ty0 k)) (hnm : ∀ a, a < N → ∀ b, b < N → a ≠ b → (T a).2.1 ≠ (T b).2.1) (hw : Cond.fieldLink own index ref (T k).2.1 (T k).2.2.1 ∈ lw_gd) (href : (T k).1 = ref) (hfin : (T k).2.2.2 = false) (hpd : parseFieldDescriptor (T k).2.2.1 = some ty) (hn : narrow ty (.int v) = .int v) (hft : fits ty (.int v) = true) (hlen : k < fs.length) (hset : cf (z_put σ id k v) id = .inr (ci, fs.set k (.int v))) (hd : decode cc pc = .ok (.putfield index, 3)) (kk : ∀ τ : zS, zW G dC dI A n ad cf nL rt (K τ) τ (pc + 3) L st) : zW G dC dI A n ad cf nL rt (z_m (z_put σ id k v) K) σ pc L (.int v :: .ref (ad id) :: st) := fun r τ ho H locs ls hP hS hl =>
  va_put C.hx C.hb C.hts hin ty0 hty hnm C.hown C.hK hP (C.hO.1 σ) hS id (z_wl_at hi hc) hcl k hk (C.hts _ hw) (by subst href; exact fun _ h => h) hfin hpd hn hft hlen hd (fun H1 locs1 hP1 _ hS1 => kk (z_put σ id k v) r τ ho H1 locs1 ls (by rw [z_wl_set C.hO.2 hi hset] at hP1; exact hP1) hS1 hl)
theorem zx_iald (C : zC G dC dI A n ad cf tys cc own nL d ret) {id len : Nat} {cA : ClassId} (t0 : Nat) (hi : id < n) (hc : cf σ id = .inl (cA, len, .inl (σ id))) (ht : tys[t0]? = some (cA, .int)) (hd : decode cc pc = .ok (.iaload, 1)) (kk : zW G dC dI A n ad cf nL rt o σ (pc + 1) L (.int (σ id x.toNatClampNeg) :: st)) : zW G dC dI A n ad cf nL rt (z_g (z_in x len) o) σ pc L (.int x :: .ref (ad id) :: st) :=
  zx_g (fun hx r τ ho H locs ls hP hS hl => va_iald C.hx C.hb C.hK hP id t0 (z_wl_at hi hc) ht (z_in_vp hx) hd (kk r τ ho H locs ls hP hS hl))
theorem zx_iast (C : zC G dC dI A n ad cf tys cc own nL d ret) {id len : Nat} {cA : ClassId} (t0 : Nat) {K : zS → zA} (hi : id < n) (hc : ∀ σ, cf σ id = .inl (cA, len, .inl (σ id))) (ht : tys[t0]? = some (cA, .int)) (hd : decode cc pc = .ok (.iastore, 1)) (kk : ∀ τ : zS, zW G dC dI A n ad cf nL rt (K τ) τ (pc + 1) L st) : zW G dC dI A n ad cf nL rt (z_g (z_in x len) (z_m (z_put σ id x.toNatClampNeg v) K)) σ pc L (.int v :: .int x :: .ref (ad id) :: st) :=
  zx_g (fun hx r τ ho H locs ls hP hS hl => va_iast C.hx C.hb C.hK hP (C.hO.1 σ) hS id t0 (z_wl_at hi (hc σ)) ht (z_in_vp hx) hd (fun H1 locs1 hP1 _ hS1 => kk (z_put σ id x.toNatClampNeg v) r τ ho H1 locs1 ls (by rw [z_wl_set C.hO.2 hi (r := upd (σ id) x.toNatClampNeg v) (by rw [hc, z_row_same])] at hP1; exact hP1) hS1 hl))
theorem zx_aald (C : zC G dC dI A n ad cf tys cc own nL d ret) {id len : Nat} {cA : ClassId} {Cn : String} {g : Nat → Nat} (t0 : Nat) (hi : id < n) (hc : cf σ id = .inl (cA, len, .inr (.inr (.inr (.inr (fun k => some (ad (g k)))))))) (ht : tys[t0]? = some (cA, .object Cn)) (hd : decode cc pc = .ok (.aaload, 1)) (kk : z_in x len = true → zW G dC dI A n ad cf nL rt o σ (pc + 1) L (.ref (ad (g x.toNatClampNeg)) :: st)) : zW G dC dI A n ad cf nL rt (z_g (z_in x len) o) σ pc L (.int x :: .ref (ad id) :: st) :=
  zx_g (fun hx r τ ho H locs ls hP hS hl => va_aldq C.hx C.hb C.hK hP id t0 (z_wl_at hi hc) ht (z_in_vp hx) hd (kk hx r τ ho H locs ls hP hS hl))
theorem zx_alen (C : zC G dC dI A n ad cf tys cc own nL d ret) {id : Nat} {cA : ClassId} {w : vp_A} {ty : FieldType} (t0 : Nat) (hi : id < n) (hc : cf σ id = .inl (cA, w)) (ht : tys[t0]? = some (cA, ty)) (hv : Int32.ofNat w.1 = v) (hd : decode cc pc = .ok (.arraylength, 1)) (kk : zW G dC dI A n ad cf nL rt o σ (pc + 1) L (.int v :: st)) : zW G dC dI A n ad cf nL rt o σ pc L (.ref (ad id) :: st) := fun r τ ho H locs ls hP hS hl =>
  va_alen C.hx C.hb C.hK hP id t0 (z_wl_at hi hc) ht hv hd (kk r τ ho H locs ls hP hS hl)
theorem zx_copy (C : zC G dC dI A n ad cf tys cc own nL d ret) {i0 i1 n0 n1 index : Nat} {cA : ClassId} (t0 : Nat) {K : zS → zA} {a b m : Int32} (hi0 : i0 < n) (hi1 : i1 < n) (hc0 : cf σ i0 = .inl (cA, n0, .inl (σ i0))) (hc1 : ∀ σ, cf σ i1 = .inl (cA, n1, .inl (σ i1))) (ht : tys[t0]? = some (cA, .int)) (hw1 : Cond.methodLink own index arraycopyName ∈ lw_gd) (hw2 : Cond.native arraycopyName ∈ lw_gd) (hw3 : Cond.static arraycopyName ∈ lw_gd) (hw4 : Cond.initialized "java/lang/System" ∈ lw_gd) (h1 : ¬ a < 0) (h2 : ¬ b < 0) (h3 : ¬ m < 0) (h4 : a.toNatClampNeg + m.toNatClampNeg ≤ n0) (h5 : b.toNatClampNeg + m.toNatClampNeg ≤ n1) (hd1 : 1 ≤ d) (hrm : (st.map fun v => v.category).sum ≤ 8) (hd : decode cc pc = .ok (.invokestatic index, 3)) (kk : ∀ τ : zS, zW G dC dI A n ad cf nL rt (K τ) τ (pc + 3) L st) : zW G dC dI A n ad cf nL rt (z_m (z_row σ i1 (va_cpy (σ i0) (σ i1) a.toNatClampNeg b.toNatClampNeg m.toNatClampNeg)) K) σ pc L (.int m :: .int b :: .ref (ad i1) :: .int a :: .ref (ad i0) :: st) := fun r τ ho H locs ls hP hS hl =>
  va_copyi C.hx C.hb (C.hml.trans hl.1.symm) C.hown (C.hts _ hw1) (C.hts _ hw2) (C.hts _ hw3) (C.hts _ hw4) C.hK hP (C.hO.1 σ) hS i0 i1 t0 t0 (z_wl_at hi0 hc0) (z_wl_at hi1 (hc1 σ)) ht ht rfl h1 h2 h3 h4 h5 (fun _ _ => rfl) (by rw [C.hR]; exact hd1) (by
    rw [C.hR]
    have hq : nativeFrameWords "java/lang/System" "arraycopy" 5 ≤ 60 := by decide +kernel
    show _ ≤ 100 * d
    omega) hd (fun H1 locs1 hP1 _ hS1 => kk _ r τ ho H1 locs1 ls (by rw [z_wl_set C.hO.2 hi1 (r := va_cpy (σ i0) (σ i1) a.toNatClampNeg b.toNatClampNeg m.toNatClampNeg) (by rw [hc1, z_row_same])] at hP1; exact hP1) hS1 hl)
theorem zx_max (C : zC G dC dI A n ad cf tys cc own nL d ret) {index : Nat} (hw1 : Cond.methodLink own index Lib.Math.max.name ∈ lw_gd) (hw2 : Cond.static Lib.Math.max.name ∈ lw_gd) (hw3 : Cond.initialized "java/lang/Math" ∈ lw_gd) (hw4 : Cond.code Lib.Math.max.name Lib.Math.max.code 2 (some .int) ∈ lw_gd) (hd1 : 1 ≤ d) (hrm : (st.map fun v => v.category).sum ≤ 8) (hd : decode cc pc = .ok (.invokestatic index, 3)) (kk : zW G dC dI A n ad cf nL rt o σ (pc + 3) L (.int (if x < y then y else x) :: st)) : zW G dC dI A n ad cf nL rt o σ pc L (.int y :: .int x :: st) := fun r τ ho H locs ls hP hS hl =>
  va_mmax C.hx C.hb (C.hml.trans hl.1.symm) C.hown (C.hts _ hw1) (C.hts _ hw2) (C.hts _ hw3) (C.hts _ hw4) (by rw [C.hR]; exact hd1) (by rw [C.hR]; show _ ≤ 100 * d; omega) (Nat.zero_le _) (Nat.zero_le _) hd (kk r τ ho H locs ls hP hS hl)
theorem zx_min (C : zC G dC dI A n ad cf tys cc own nL d ret) {index : Nat} (hw1 : Cond.methodLink own index Lib.Math.min.name ∈ lw_gd) (hw2 : Cond.static Lib.Math.min.name ∈ lw_gd) (hw3 : Cond.initialized "java/lang/Math" ∈ lw_gd) (hw4 : Cond.code Lib.Math.min.name Lib.Math.min.code 2 (some .int) ∈ lw_gd) (hd1 : 1 ≤ d) (hrm : (st.map fun v => v.category).sum ≤ 8) (hd : decode cc pc = .ok (.invokestatic index, 3)) (kk : zW G dC dI A n ad cf nL rt o σ (pc + 3) L (.int (if y < x then y else x) :: st)) : zW G dC dI A n ad cf nL rt o σ pc L (.int y :: .int x :: st) := fun r τ ho H locs ls hP hS hl =>
  va_mmin C.hx C.hb (C.hml.trans hl.1.symm) C.hown (C.hts _ hw1) (C.hts _ hw2) (C.hts _ hw3) (C.hts _ hw4) (by rw [C.hR]; exact hd1) (by rw [C.hR]; show _ ≤ 100 * d; omega) (Nat.zero_le _) (Nat.zero_le _) hd (kk r τ ho H locs ls hP hS hl)
theorem zx_iret (C : zC G dC dI A n ad cf tys cc own nL d (some .int)) (hd : decode cc pc = .ok (.ireturn, 1)) : zW G dC dI A n ad cf nL true (some (x, σ)) σ pc L [.int x] := fun r τ ho H locs ls hP hS hl => by
  cases ho
  exact W.iret (hlocks := C.hlk) C.hx C.hb C.hr (fun t ht _ => ⟨⟨x, (), rfl, rfl, (by show va_P _ _ _ t.heap; rw [ht]; exact hP)⟩, hS.F ht⟩) hS.2.2 hd
theorem zx_zret (C : zC G dC dI A n ad cf tys cc own nL d (some .boolean)) (hb : z_bo x = true) (hd : decode cc pc = .ok (.ireturn, 1)) : zW G dC dI A n ad cf nL true (some (x, σ)) σ pc L [.int x] := fun r τ ho H locs ls hP hS hl => by
  cases ho
  exact W.zret (hlocks := C.hlk) C.hx C.hb C.hr (z_bo_n hb) (fun t ht _ => ⟨⟨x, (), rfl, rfl, (by show va_P _ _ _ t.heap; rw [ht]; exact hP)⟩, hS.F ht⟩) hS.2.2 hd
theorem zx_zretg (C : zC G dC dI A n ad cf tys cc own nL d (some .boolean)) (hd : decode cc pc = .ok (.ireturn, 1)) : zW G dC dI A n ad cf nL true (z_g (z_bo x) (some (x, σ))) σ pc L [.int x] := zx_g (fun hb => zx_zret C hb hd)
theorem zx_vret (C : zC G dC dI A n ad cf tys cc own nL d none) (hd : decode cc pc = .ok (.return_, 1)) : zW G dC dI A n ad cf nL false (some (0, σ)) σ pc L [] := fun r τ ho H locs ls hP hS hl => by
  cases ho
  exact W.vret (hlocks := C.hlk) C.hx C.hb C.hr (fun t ht _ => ⟨⟨(), rfl, trivial, (by show va_P _ _ _ t.heap; rw [ht]; exact hP)⟩, hS.F ht⟩) hS.2.2 hd
/-- what the tables say of a method: its code, its class, its parameters -/
def zY (y : MethodName) (bytes : ByteArray) (nL : Nat) (ret : Option FieldType) (np : Nat) : Prop := Cond.code y bytes nL ret ∈ lw_gd ∧ Cond.initialized y.cls ∈ lw_gd ∧ (y.cls ≠ "java/lang/invoke/MethodHandle" ∧ y.cls ≠ "java/lang/invoke/VarHandle" ∧ (parseMethodDescriptor y.desc).map (fun d => d.parameters.length) = some np) ∧ nL ≤ 60 ∧ goodWord (Cond.code y bytes nL ret) = true
theorem zY.good {y : MethodName} {bytes : ByteArray} {nL np : Nat} {ret : Option FieldType} (h : zY y bytes nL ret np) : GoodIn lw_gd (.code y bytes nL ret :: lw_gd) := fun w hw => (List.mem_cons.mp hw).elim (fun e => e ▸ ⟨h.1, good_of_word h.2.2.2.2⟩) (gd_good w)
theorem zP_blind {av : List Value} : FrameBlind (va_Pc av (zP dC dI n ad cf tys σ)) := fun a U g mk q => by
  obtain ⟨q0, qP, qK, qN⟩ := q
  exact ⟨q0, qP, va_K.moved (u := U) (U := U.calling g mk a) (Vm.Alike.refl U.vm) qK, zN.same rfl qN⟩
theorem z_pre (C : zC G dC dI A n ad cf tys cc own nL d ret) {av : List Value} {H : Heap} (hP : va_P (dC, dI) vwCl (z_wl n ad cf σ) H) : ∀ U : State, U.heap = H → (gS G).WarmedH U.vm → va_Pc av (zP dC dI n ad cf tys σ) av.toArray U := fun U hU hW => ⟨rfl, by rw [hU]; exact hP, va_K.moved hW.alike C.hK, C.hN.warm hW⟩
theorem z_run (C : zC G dC dI A n ad cf tys cc own nL d ret) {stk : List Value} {K : Int32 → zS → zA} {av : Array Value} {rt1 : Bool} (hM : ∀ (r : Int32) (τ : zS) (H : Heap) (locs : List Loc) (ls : Array Slot), o1 = some (r, τ) → va_P (dC, dI) vwCl (z_wl n ad cf σ) H → lv_has ls nL L → va_Run (gP G) (gL G) (gE G) (gR G) (gS G) (gM G) (gA G) (gB G) (gH G) (gC G) H locs 0 0 0 0 (F0 (gM G) pc ls stk) st (zQ rt1 dC dI A n ad cf r τ av) A)
    (ki : rt1 = true → ∀ (r : Int32) (τ : zS), zW G dC dI A n ad cf nL rt (K r τ) τ (pc + 3) L (.int r :: st)) (kv : rt1 = false → ∀ (r : Int32) (τ : zS), zW G dC dI A n ad cf nL rt (K r τ) τ (pc + 3) L st) : zW G dC dI A n ad cf nL rt (z_b o1 K) σ pc L stk := by
  intro r τ ho H locs ls hP hS hl
  cases h1 : o1 with
  | none => rw [h1] at ho; exact nomatch ho
  | some q =>
    obtain ⟨r1, τ1⟩ := q
    rw [h1] at ho
    have hrun := hM r1 τ1 H locs ls h1 hP hl
    cases rt1 with
    | true =>
      refine va_calli (A0 := A) (A1 := A) (a := av) hrun hS (fun _ _ h => h) (fun _ h => h) (fun r2 u t H1 locs1 ht _ hw hB _ _ hS1 => ?_)
      subst hw
      rw [ht] at hB
      exact ki rfl r2 τ1 r τ ho H1 locs1 ls hB hS1 hl
    | false =>
      refine va_callv (A0 := A) (A1 := A) (a := av) hrun hS (fun _ _ h => h) (fun _ h => h) (fun u t H1 locs1 ht _ _ hB _ _ hS1 => ?_)
      rw [ht] at hB
      exact kv rfl r1 τ1 r τ ho H1 locs1 ls hB hS1 hl
theorem z_rm {nL1 d1 : Nat} (C : zC G dC dI A n ad cf tys cc own nL d ret) (hd : d1 + 1 ≤ d) (hn : nL1 ≤ 60) : (zR d1).frames + 1 ≤ (gR G).frames ∧ 8 + (nL1 + 11) + (zR d1).locals ≤ (gR G).locals := by
  rw [C.hR]
  exact ⟨hd, by show _ + 100 * d1 ≤ 100 * d; omega⟩
theorem z_fix (C : zC G dC dI A n ad cf tys cc own nL d ret) : CallFix (gP G) (gM G) (gC G) cc nL (gS G) (gA G) lw_gd own := ⟨C.hx, C.hb, C.hml, C.hown, C.hts⟩
/-- a static method of the same class, or one that isn't private -/
theorem zx_callS (C : zC G dC dI A n ad cf tys cc own nL d ret) {y : MethodName} {bytes : ByteArray} {nL1 d1 np index : Nat} {ret1 : Option FieldType} {rt1 : Bool} {stk av : List Value} {K : Int32 → zS → zA} (hY : zY y bytes nL1 ret1 np) (hw : Cond.methodLink own index y ∈ lw_gd) (hst : Cond.static y ∈ lw_gd) (hM : zM (gL G) dC dI A n ad cf tys rt1 y bytes nL1 ret1 d1 av σ o1) (hd1 : d1 + 1 ≤ d) (hn : av.length = np) (hs : stk = av.reverse ++ st) (hrm : (st.map fun v => v.category).sum ≤ 8) (hd : decode cc pc = .ok (.invokestatic index, 3))
    (ki : rt1 = true → ∀ (r : Int32) (τ : zS), zW G dC dI A n ad cf nL rt (K r τ) τ (pc + 3) L (.int r :: st)) (kv : rt1 = false → ∀ (r : Int32) (τ : zS), zW G dC dI A n ad cf nL rt (K r τ) τ (pc + 3) L st) : zW G dC dI A n ad cf nL rt (z_b o1 K) σ pc L stk :=
  z_run C (fun r τ H locs ls h1 hP hl => va_runS (As := av) (rest := st) (z_fix C) (hM r τ h1) ⟨callB_of np C.hts hY.good rfl rfl rfl (C.hts _ hY.2.1) (C.hts _ hw) hY.2.2.1 (z_rm C hd1 hY.2.2.2.1), C.hts _ hst⟩ ⟨zP_blind, z_pre C hP⟩ rfl hn hl.1 hs (lv_room hrm) hd ⟨Nat.zero_le _, Nat.zero_le _⟩) ki kv
/-- a private static method of a nest mate -/
theorem zx_callSN (C : zC G dC dI A n ad cf tys cc own nL d ret) {y : MethodName} {bytes : ByteArray} {nL1 d1 np index : Nat} {ret1 : Option FieldType} {rt1 : Bool} {host : String} {stk av : List Value} {K : Int32 → zS → zA} (hY : zY y bytes nL1 ret1 np) (hw : (own, index, y, host) ∈ z_nest) (hst : Cond.static y ∈ lw_gd) (hM : zM (gL G) dC dI A n ad cf tys rt1 y bytes nL1 ret1 d1 av σ o1) (hd1 : d1 + 1 ≤ d) (hn : av.length = np) (hs : stk = av.reverse ++ st) (hrm : (st.map fun v => v.category).sum ≤ 8) (hd : decode cc pc = .ok (.invokestatic index, 3))
    (ki : rt1 = true → ∀ (r : Int32) (τ : zS), zW G dC dI A n ad cf nL rt (K r τ) τ (pc + 3) L (.int r :: st)) (kv : rt1 = false → ∀ (r : Int32) (τ : zS), zW G dC dI A n ad cf nL rt (K r τ) τ (pc + 3) L st) : zW G dC dI A n ad cf nL rt (z_b o1 K) σ pc L stk :=
  z_run C (fun r τ H locs ls h1 hP hl => va_runSN (As := av) (rest := st) (z_fix C) (hM r τ h1) ⟨va_cnB np C.hts hY.good rfl rfl rfl (C.hN _ hw) (C.hts _ hY.2.1) hY.2.2.1 (z_rm C hd1 hY.2.2.2.1), C.hts _ hst, trivial⟩ ⟨zP_blind, z_pre C hP⟩ rfl hn hl.1 hs (lv_room hrm) hd ⟨Nat.zero_le _, Nat.zero_le _⟩) ki kv
/-- a method of the receiver's own class -/
theorem zx_callV (C : zC G dC dI A n ad cf tys cc own nL d ret) {y : MethodName} {bytes : ByteArray} {nL1 d1 np index id ci : Nat} {ret1 : Option FieldType} {rt1 : Bool} {Cn : String} {T : u_T} {N : Nat} {fs stk As : List Value} {K : Int32 → zS → zA} (hY : zY y bytes nL1 ret1 np) (hw : Cond.methodLink own index y ∈ lw_gd) (hin : Cond.instanceMethod y ∈ lw_gd) (hse : Cond.selects Cn y y ∈ lw_gd) (hi : id < n) (hc : cf σ id = .inr (ci, fs)) (hcl : vwCl[ci]? = some (Cn, T, N)) (hM : zM (gL G) dC dI A n ad cf tys rt1 y bytes nL1 ret1 d1 (.ref (ad id) :: As) σ o1) (hd1 : d1 + 1 ≤ d) (hn : As.length = np) (hs : stk = As.reverse ++ .ref (ad id) :: st) (hrm : (st.map fun v => v.category).sum ≤ 8) (hd : decode cc pc = .ok (.invokevirtual index, 3))
    (ki : rt1 = true → ∀ (r : Int32) (τ : zS), zW G dC dI A n ad cf nL rt (K r τ) τ (pc + 3) L (.int r :: st)) (kv : rt1 = false → ∀ (r : Int32) (τ : zS), zW G dC dI A n ad cf nL rt (K r τ) τ (pc + 3) L st) : zW G dC dI A n ad cf nL rt (z_b o1 K) σ pc L stk :=
  z_run C (fun r τ H locs ls h1 hP hl => va_runV (As := As) (rest := st) (z_fix C) (hM r τ h1) ⟨callB_of np C.hts hY.good rfl rfl rfl (C.hts _ hY.2.1) (C.hts _ hw) hY.2.2.1 (z_rm C hd1 hY.2.2.2.1), C.hts _ hin, C.hts _ hse⟩ ⟨zP_blind, va_recv C.hK hP hcl (z_wl_at hi hc), z_pre C hP⟩ rfl hn hl.1 hs (lv_room hrm) hd ⟨Nat.zero_le _, Nat.zero_le _⟩) ki kv
/-- a method that the receiver's class overrides or inherits: the reference names zx, zy is run -/
theorem zx_callO (C : zC G dC dI A n ad cf tys cc own nL d ret) {xn y : MethodName} {bytes b0 : ByteArray} {nL1 d1 np index id ci m0 : Nat} {ret1 r0 : Option FieldType} {rt1 : Bool} {Cn : String} {T : u_T} {N : Nat} {fs stk As : List Value} {K : Int32 → zS → zA} (hY : zY y bytes nL1 ret1 np) (hX : zY xn b0 m0 r0 np) (hw : Cond.methodLink own index xn ∈ lw_gd) (hsm : Cond.sameMethod xn.cls xn.cls xn.name xn.desc ∈ lw_gd) (hin0 : Cond.instanceMethod xn ∈ lw_gd) (hin : Cond.instanceMethod y ∈ lw_gd) (hse : Cond.selects Cn xn y ∈ lw_gd) (hi : id < n) (hc : cf σ id = .inr (ci, fs)) (hcl : vwCl[ci]? = some (Cn, T, N)) (hM : zM (gL G) dC dI A n ad cf tys rt1 y bytes nL1 ret1 d1 (.ref (ad id) :: As) σ o1) (hd1 : d1 + 1 ≤ d) (hn : As.length = np) (hs : stk = As.reverse ++ .ref (ad id) :: st) (hrm : (st.map fun v => v.category).sum ≤ 8) (hd : decode cc pc = .ok (.invokevirtual index, 3))
    (ki : rt1 = true → ∀ (r : Int32) (τ : zS), zW G dC dI A n ad cf nL rt (K r τ) τ (pc + 3) L (.int r :: st)) (kv : rt1 = false → ∀ (r : Int32) (τ : zS), zW G dC dI A n ad cf nL rt (K r τ) τ (pc + 3) L st) : zW G dC dI A n ad cf nL rt (z_b o1 K) σ pc L stk :=
  z_run C (fun r τ H locs ls h1 hP hl => va_runU (As := As) (rest := st) (owner := xn.cls) (z_fix C) (hM r τ h1) (by
    have hrm1 := z_rm C hd1 hY.2.2.2.1
    refine ⟨⟨rfl, rfl, hrm1.1, hrm1.2, pay_in C.hts hY.good, List.mem_cons_self⟩, C.hts _ hY.1, C.hts _ hY.2.1, ⟨hX.2.2.1.1, hX.2.2.1.2.1⟩, fun sig h => ?_, C.hts _ hw, C.hts _ hsm, va_Decl.of (C.hts _ hin0) (C.hts _ hX.1), C.hts _ hse, C.hts _ hin⟩
    have h2 := hX.2.2.1.2.2
    rw [h] at h2
    exact (Option.some.inj h2).symm) ⟨zP_blind, va_recv C.hK hP hcl (z_wl_at hi hc), z_pre C hP⟩ rfl hn hl.1 hs (lv_room hrm) hd ⟨Nat.zero_le _, Nat.zero_le _⟩) ki kv
/-- super.y(..) -/
theorem zx_callSU (C : zC G dC dI A n ad cf tys cc own nL d ret) {y : MethodName} {bytes : ByteArray} {nL1 d1 np index id ci : Nat} {ret1 : Option FieldType} {rt1 : Bool} {Cn : String} {T : u_T} {N : Nat} {fs stk As : List Value} {K : Int32 → zS → zA} (hY : zY y bytes nL1 ret1 np) (hw : Cond.methodLink own index y ∈ lw_gd) (hsm : Cond.sameMethod y.cls y.cls y.name y.desc ∈ lw_gd) (hsu : Cond.superclass own y.cls ∈ lw_gd) (hin : Cond.instanceMethod y ∈ lw_gd) (hno : y.name ≠ "<init>") (hi : id < n) (hc : cf σ id = .inr (ci, fs)) (hcl : vwCl[ci]? = some (Cn, T, N)) (hM : zM (gL G) dC dI A n ad cf tys rt1 y bytes nL1 ret1 d1 (.ref (ad id) :: As) σ o1) (hd1 : d1 + 1 ≤ d) (hn : As.length = np) (hs : stk = As.reverse ++ .ref (ad id) :: st) (hrm : (st.map fun v => v.category).sum ≤ 8) (hd : decode cc pc = .ok (.invokespecial index, 3))
    (ki : rt1 = true → ∀ (r : Int32) (τ : zS), zW G dC dI A n ad cf nL rt (K r τ) τ (pc + 3) L (.int r :: st)) (kv : rt1 = false → ∀ (r : Int32) (τ : zS), zW G dC dI A n ad cf nL rt (K r τ) τ (pc + 3) L st) : zW G dC dI A n ad cf nL rt (z_b o1 K) σ pc L stk :=
  z_run C (fun r τ H locs ls h1 hP hl => va_runSU (As := As) (rest := st) (C.hK.1 ci _ hcl).2 (z_fix C) (hM r τ h1) (by
    have hrm1 := z_rm C hd1 hY.2.2.2.1
    refine ⟨⟨rfl, rfl, hrm1.1, hrm1.2, pay_in C.hts hY.good, List.mem_cons_self⟩, C.hts _ hw, C.hts _ hsm, C.hts _ hsu, C.hts _ hin, C.hts _ hY.2.1, C.hts _ hY.1, hno, fun sig h => ?_⟩
    have h2 := hY.2.2.1.2.2
    rw [h] at h2
    exact (Option.some.inj h2).symm) ⟨zP_blind, va_recv C.hK hP hcl (z_wl_at hi hc), z_pre C hP⟩ rfl hn hl.1 hs (lv_room hrm) hd ⟨Nat.zero_le _, Nat.zero_le _⟩) ki kv
end ZR
/-- a contract out of the walk from its entry -/
theorem zM_of {l : Launch} {dC : Nat → ClassId} {dI : Nat → Nat → Nat} {A : Nat → Prop} {n : Nat} {ad : Nat → Nat} {cf : zS → Nat → va_E} {tys : List (ClassId × FieldType)} {rt : Bool} {y : MethodName} {bytes : ByteArray} {nL : Nat} {ret : Option FieldType} {d : Nat} {av : List Value} {σ : zS} {o : zA} (hO : zO A n ad cf) (hy : plainName y.cls = true) (hav : (lg_sl av).length ≤ nL)
    (h : ∀ G : zG, gL G = l → zC G dC dI A n ad cf tys bytes y.cls nL d ret → zW G dC dI A n ad cf nL rt o σ 0 (lv_args 0 av) []) : zM l dC dI A n ad cf tys rt y bytes nL ret d av σ o := by
  intro r τ ho
  refine Met.ofW (cc := bytes) (maxL := nL) (ret := ret) hy rfl ?_
  intro p e s m args below meth c s₁ B hml hv
  obtain ⟨rfl, hP, hK, hN⟩ := hv
  have hts := atoms_spec (ws := .code y bytes nL ret :: lw_gd) B.pre
  have hown : s.vm.findClass y.cls = some m.cls := findClass_of_methodNamed B.named
  have hl := lv_entry av (n := nL) hav
  rw [lg_entry_eq]
  exact h (p, e, zR d, s, m, av.toArray, below, meth, c, l) rfl ⟨B.exec, B.bytes, hml, hown, fun w hw => hts w (List.mem_cons_of_mem _ hw), hK, hN, hO, B.notSynchronized, rfl, B.returns⟩ r τ ho s.heap [] _ hP va_S.rf hl
end
section
/-! The two worlds. C: the class's 48 cells: 6j + i candle i of house j (0 now, 1 mind, 2 kept), 18 + j the house, 21 + j its row of candles, 24 + j draughts, 27 + j debts, 30 + k the wax of kind k, 36 their row, 37 the object, 38 letters, 39 their signs, 40 ways, 41 .. 45 its rows (debts, worths, mostPaid, tried, rooms), 46 told, 47 refusals.
M: the reference's 16 cells: 0 the object, 1 .. 8 kind, figure, grains, whose, room, lit, draught, debt, 9 refused, 10 tape, 11 letter, 12 letterAt, 13 told, 14 kept, 15 row. -/
abbrev z_ty (cI cC cW : ClassId) : List (ClassId × FieldType) := [(cI, .int), (cC, .object "PaidInLight$Candle"), (cW, .object "PaidInLight$Wax")]
def wxc (k : Nat) : Nat := match k with
  | 0 => 8
  | 1 => 0
  | 2 => 2
  | 3 => 7
  | 4 => 6
  | _ => 3
def ar_q (g : Nat → Nat) (ad : Nat → Nat) : Nat → Option Nat := fun k => some (ad (g k))
def cfC (ad : Nat → Nat) (cI cC cW : ClassId) (σ : zS) (i : Nat) : va_E :=
  if i < 18 then .inr (1, [.int (σ i 0), .int (σ i 1), .int (σ i 2), .int (σ i 3), .int (σ i 4), .int (σ i 5)])
  else if i < 21 then .inr (4, [.ref (ad 36), .ref (ad (21 + (i - 18))), .ref (ad (24 + (i - 18))), .ref (ad (27 + (i - 18))), .int (σ i 4), .int (σ i 5), .int (σ i 6), .int (σ i 7), .int (σ i 8)])
  else if i < 24 then .inl (cC, 6, .inr (.inr (.inr (.inr (fun k => some (ad (6 * (i - 21) + k)))))))
  else if i < 27 then .inl (cI, 4, .inl (σ i))
  else if i < 30 then .inl (cI, 16, .inl (σ i))
  else if i < 36 then .inr (wxc (i - 30), [])
  else match i with
  | 36 => .inl (cW, 6, .inr (.inr (.inr (.inr (fun k => some (ad (30 + k)))))))
  | 37 => .inr (10, [.ref (ad 36), .ref (ad 18), .ref (ad 19), .ref (ad 20), .int (σ 37 4), .ref (ad 38), .ref (ad 40), .ref (ad 46), .int (σ 37 8), .ref (ad 47)])
  | 38 => .inr (5, [.ref (ad 39), .int (σ 38 1)])
  | 39 => .inl (cI, 80, .inl (σ 39))
  | 40 => .inr (9, [.ref (ad 41), .ref (ad 42), .ref (ad 43), .ref (ad 44), .ref (ad 45), .int (σ 40 5)])
  | 41 => .inl (cI, 16, .inl (σ 41))
  | 42 => .inl (cI, 24, .inl (σ 42))
  | 43 => .inl (cI, 7, .inl (σ 43))
  | 44 => .inl (cI, 6, .inl (σ 44))
  | 45 => .inl (cI, 6, .inl (σ 45))
  | 46 => .inl (cI, 6, .inl (σ 46))
  | _ => .inl (cI, 7, .inl (σ i))
def lenM (i : Nat) : Nat := match i with
  | 7 => 4
  | 8 => 16
  | 9 => 7
  | 10 => 80
  | 11 => 40
  | 12 => 40
  | 13 => 160
  | 14 => 140
  | _ => 6
def cfM (ad : Nat → Nat) (cI : ClassId) (σ : zS) (i : Nat) : va_E := match i with
  | 0 => .inr (11, [.ref (ad 9), .ref (ad 1), .ref (ad 2), .ref (ad 3), .ref (ad 4), .ref (ad 5), .ref (ad 6), .ref (ad 7), .ref (ad 8), .int (σ 0 9), .int (σ 0 10), .int (σ 0 11), .int (σ 0 12), .int (σ 0 13), .ref (ad 10), .ref (ad 11), .ref (ad 12), .ref (ad 13), .int (σ 0 18), .int (σ 0 19), .int (σ 0 20), .ref (ad 14), .int (σ 0 22), .int (σ 0 23), .int (σ 0 24), .int (σ 0 25), .int (σ 0 26), .ref (ad 15), .int (σ 0 28)])
  | k + 1 => .inl (cI, lenM (k + 1), .inl (σ (k + 1)))
theorem cfC_loc {ad : Nat → Nat} {cI cC cW : ClassId} (σ τ : zS) (i : Nat) (h : σ i = τ i) : cfC ad cI cC cW σ i = cfC ad cI cC cW τ i := by
  unfold cfC
  rw [h]
  split <;> try rfl
  split <;> try rfl
  split <;> try rfl
  split <;> try rfl
  split <;> try rfl
  split <;> try rfl
  split <;> first | rfl | (rw [h])
theorem cfM_loc {ad : Nat → Nat} {cI : ClassId} (σ τ : zS) (i : Nat) (h : σ i = τ i) : cfM ad cI σ i = cfM ad cI τ i := by
  unfold cfM
  split <;> rw [h]
section ZW
variable {ad : Nat → Nat} {cI cC cW : ClassId} {σ : zS}
theorem c_cand {c : Nat} (h : c < 18) : cfC ad cI cC cW σ c = .inr (1, [.int (σ c 0), .int (σ c 1), .int (σ c 2), .int (σ c 3), .int (σ c 4), .int (σ c 5)]) := if_pos h
theorem c_house {j : Nat} (h : j < 3) : cfC ad cI cC cW σ (18 + j) = .inr (4, [.ref (ad 36), .ref (ad (21 + j)), .ref (ad (24 + j)), .ref (ad (27 + j)), .int (σ (18 + j) 4), .int (σ (18 + j) 5), .int (σ (18 + j) 6), .int (σ (18 + j) 7), .int (σ (18 + j) 8)]) := by
  unfold cfC
  rw [if_neg (by omega), if_pos (by omega), Nat.add_sub_cancel_left]
theorem c_cands {j : Nat} (h : j < 3) : cfC ad cI cC cW σ (21 + j) = .inl (cC, 6, .inr (.inr (.inr (.inr (fun k => some (ad (6 * j + k))))))) := by
  unfold cfC
  rw [if_neg (by omega), if_neg (by omega), if_pos (by omega), Nat.add_sub_cancel_left]
theorem c_dra {j : Nat} (h : j < 3) (σ : zS) : cfC ad cI cC cW σ (24 + j) = .inl (cI, 4, .inl (σ (24 + j))) := by
  unfold cfC
  rw [if_neg (by omega), if_neg (by omega), if_neg (by omega), if_pos (by omega)]
theorem c_deb {j : Nat} (h : j < 3) (σ : zS) : cfC ad cI cC cW σ (27 + j) = .inl (cI, 16, .inl (σ (27 + j))) := by
  unfold cfC
  rw [if_neg (by omega), if_neg (by omega), if_neg (by omega), if_neg (by omega), if_pos (by omega)]
theorem c_wax {k : Nat} (h : k < 6) : cfC ad cI cC cW σ (30 + k) = .inr (wxc k, []) := by
  unfold cfC
  rw [if_neg (by omega), if_neg (by omega), if_neg (by omega), if_neg (by omega), if_neg (by omega), if_pos (by omega), Nat.add_sub_cancel_left]
theorem m_arr {i : Nat} (h0 : 0 < i) (σ : zS) : cfM ad cI σ i = .inl (cI, lenM i, .inl (σ i)) := by
  cases i with
  | zero => omega
  | succ k => rfl
end ZW
theorem wl_D {A : Nat → Prop} {n : Nat} {ad : Nat → Nat} {cf : zS → Nat → va_E} (hA : ∀ i, i < n → A (ad i)) (hinj : ∀ i j, i < n → j < n → ad i = ad j → i = j) (σ : zS) : va_D A (z_wl n ad cf σ) := by
  have key : ∀ (k : Nat) (q : Nat × va_E), (z_wl n ad cf σ)[k]? = some q → k < n ∧ q.1 = ad k := by
    intro k q h
    have hk : k < n := by
      have := (List.getElem?_eq_some_iff.mp h).1
      simpa [z_wl] using this
    rw [z_wl_get hk] at h
    cases h
    exact ⟨hk, rfl⟩
  refine ⟨fun i j p q hi hj hpq => ?_, fun k q hk => ?_⟩
  · obtain ⟨a1, a2⟩ := key i p hi
    obtain ⟨b1, b2⟩ := key j q hj
    exact hinj i j a1 b1 (by rw [← a2, ← b2]; exact hpq)
  · obtain ⟨a1, a2⟩ := key k q hk
    rw [a2]
    exact hA k a1
theorem zO_C {A : Nat → Prop} {ad : Nat → Nat} {cI cC cW : ClassId} (hA : ∀ i, i < 48 → A (ad i)) (hinj : ∀ i j, i < 48 → j < 48 → ad i = ad j → i = j) : zO A 48 ad (cfC ad cI cC cW) := ⟨wl_D hA hinj, cfC_loc⟩
theorem zO_M {A : Nat → Prop} {ad : Nat → Nat} {cI : ClassId} (hA : ∀ i, i < 16 → A (ad i)) (hinj : ∀ i j, i < 16 → j < 16 → ad i = ad j → i = j) : zO A 16 ad (cfM ad cI) := ⟨wl_D hA hinj, cfM_loc⟩
end
