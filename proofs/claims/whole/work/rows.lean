section
-- ===== PART A: goes FIRST, ahead of the names: the tables' words, and 'selects' of the private methods out of them =====
/-- a private method of a class that the tables say can be made, by its rows of tables_1 -/
def lw_okq (q : MethodName × Nat) : Prop := (q.1.cls ≠ "java/lang/invoke/MethodHandle" ∧ q.1.cls ≠ "java/lang/invoke/VarHandle") ∧ Cond.instantiable q.1.cls q.2 ∈ tables_1 ∧ Cond.privateMethod q.1 ∈ tables_1 ∧ Cond.instanceMethod q.1 ∈ tables_1
theorem lw_p0 : lw_okq (⟨"RankBoard", "refusalOf", "(I)I"⟩, 8) := ⟨⟨by decide +kernel, by decide +kernel⟩, List.mem_of_getElem? (i := 15) (by decide +kernel), List.mem_of_getElem? (i := 362) (by decide +kernel), List.mem_of_getElem? (i := 363) (by decide +kernel)⟩
theorem lw_p1 : lw_okq (⟨"RankBoard", "barsBetween", "(II)I"⟩, 8) := ⟨⟨by decide +kernel, by decide +kernel⟩, List.mem_of_getElem? (i := 15) (by decide +kernel), List.mem_of_getElem? (i := 476) (by decide +kernel), List.mem_of_getElem? (i := 477) (by decide +kernel)⟩
theorem lw_p2 : lw_okq (⟨"RankBoard", "gatherThosePresent", "()V"⟩, 8) := ⟨⟨by decide +kernel, by decide +kernel⟩, List.mem_of_getElem? (i := 15) (by decide +kernel), List.mem_of_getElem? (i := 488) (by decide +kernel), List.mem_of_getElem? (i := 489) (by decide +kernel)⟩
theorem lw_p3 : lw_okq (⟨"RankBoard", "setCharges", "()V"⟩, 8) := ⟨⟨by decide +kernel, by decide +kernel⟩, List.mem_of_getElem? (i := 15) (by decide +kernel), List.mem_of_getElem? (i := 492) (by decide +kernel), List.mem_of_getElem? (i := 493) (by decide +kernel)⟩
theorem lw_p4 : lw_okq (⟨"RankBoard", "chargeFor", "(II)I"⟩, 8) := ⟨⟨by decide +kernel, by decide +kernel⟩, List.mem_of_getElem? (i := 15) (by decide +kernel), List.mem_of_getElem? (i := 496) (by decide +kernel), List.mem_of_getElem? (i := 497) (by decide +kernel)⟩
theorem lw_p5 : lw_okq (⟨"RankBoard$Fitting", "bitOf", "(I)I"⟩, 5) := ⟨⟨by decide +kernel, by decide +kernel⟩, List.mem_of_getElem? (i := 177) (by decide +kernel), List.mem_of_getElem? (i := 518) (by decide +kernel), List.mem_of_getElem? (i := 519) (by decide +kernel)⟩
theorem lw_p6 : lw_okq (⟨"RankBoard$Fitting", "uppermostMate", "(III)I"⟩, 5) := ⟨⟨by decide +kernel, by decide +kernel⟩, List.mem_of_getElem? (i := 177) (by decide +kernel), List.mem_of_getElem? (i := 523) (by decide +kernel), List.mem_of_getElem? (i := 524) (by decide +kernel)⟩
theorem lw_p7 : lw_okq (⟨"RankBoard", "enterDay", "()I"⟩, 8) := ⟨⟨by decide +kernel, by decide +kernel⟩, List.mem_of_getElem? (i := 15) (by decide +kernel), List.mem_of_getElem? (i := 527) (by decide +kernel), List.mem_of_getElem? (i := 528) (by decide +kernel)⟩
theorem lw_p8 : lw_okq (⟨"RankBoard", "moveByCustom", "(I)V"⟩, 8) := ⟨⟨by decide +kernel, by decide +kernel⟩, List.mem_of_getElem? (i := 15) (by decide +kernel), List.mem_of_getElem? (i := 587) (by decide +kernel), List.mem_of_getElem? (i := 588) (by decide +kernel)⟩
theorem lw_p9 : lw_okq (⟨"RankBoard", "scoreWithout", "(II)I"⟩, 8) := ⟨⟨by decide +kernel, by decide +kernel⟩, List.mem_of_getElem? (i := 15) (by decide +kernel), List.mem_of_getElem? (i := 629) (by decide +kernel), List.mem_of_getElem? (i := 630) (by decide +kernel)⟩
theorem lw_p10 : lw_okq (⟨"RankBoard", "crownIfAlone", "()V"⟩, 8) := ⟨⟨by decide +kernel, by decide +kernel⟩, List.mem_of_getElem? (i := 15) (by decide +kernel), List.mem_of_getElem? (i := 654) (by decide +kernel), List.mem_of_getElem? (i := 655) (by decide +kernel)⟩
theorem lw_p11 : lw_okq (⟨"RankBoard", "tally", "(I)I"⟩, 8) := ⟨⟨by decide +kernel, by decide +kernel⟩, List.mem_of_getElem? (i := 15) (by decide +kernel), List.mem_of_getElem? (i := 678) (by decide +kernel), List.mem_of_getElem? (i := 679) (by decide +kernel)⟩
theorem lw_p12 : lw_okq (⟨"RankBoard", "withWrestler", "(JI)J"⟩, 8) := ⟨⟨by decide +kernel, by decide +kernel⟩, List.mem_of_getElem? (i := 15) (by decide +kernel), List.mem_of_getElem? (i := 695) (by decide +kernel), List.mem_of_getElem? (i := 696) (by decide +kernel)⟩
theorem lw_p13 : lw_okq (⟨"RankBoard", "withSheet", "(JI)J"⟩, 8) := ⟨⟨by decide +kernel, by decide +kernel⟩, List.mem_of_getElem? (i := 15) (by decide +kernel), List.mem_of_getElem? (i := 700) (by decide +kernel), List.mem_of_getElem? (i := 701) (by decide +kernel)⟩
theorem lw_p14 : lw_okq (⟨"RankBoardModel", "isOne", "(I)Z"⟩, 52) := ⟨⟨by decide +kernel, by decide +kernel⟩, List.mem_of_getElem? (i := 704) (by decide +kernel), List.mem_of_getElem? (i := 887) (by decide +kernel), List.mem_of_getElem? (i := 888) (by decide +kernel)⟩
theorem lw_p15 : lw_okq (⟨"RankBoardModel", "meets", "(I)I"⟩, 52) := ⟨⟨by decide +kernel, by decide +kernel⟩, List.mem_of_getElem? (i := 704) (by decide +kernel), List.mem_of_getElem? (i := 891) (by decide +kernel), List.mem_of_getElem? (i := 892) (by decide +kernel)⟩
def lw_privs_1 : List (MethodName × Nat) := [(⟨"RankBoard", "refusalOf", "(I)I"⟩, 8), (⟨"RankBoard", "barsBetween", "(II)I"⟩, 8), (⟨"RankBoard", "gatherThosePresent", "()V"⟩, 8), (⟨"RankBoard", "setCharges", "()V"⟩, 8), (⟨"RankBoard", "chargeFor", "(II)I"⟩, 8), (⟨"RankBoard$Fitting", "bitOf", "(I)I"⟩, 5), (⟨"RankBoard$Fitting", "uppermostMate", "(III)I"⟩, 5), (⟨"RankBoard", "enterDay", "()I"⟩, 8), (⟨"RankBoard", "moveByCustom", "(I)V"⟩, 8), (⟨"RankBoard", "scoreWithout", "(II)I"⟩, 8), (⟨"RankBoard", "crownIfAlone", "()V"⟩, 8), (⟨"RankBoard", "tally", "(I)I"⟩, 8), (⟨"RankBoard", "withWrestler", "(JI)J"⟩, 8), (⟨"RankBoard", "withSheet", "(JI)J"⟩, 8), (⟨"RankBoardModel", "isOne", "(I)Z"⟩, 52), (⟨"RankBoardModel", "meets", "(I)I"⟩, 52)]
theorem lw_r1 : ∀ q ∈ lw_privs_1, lw_okq q := List.forall_mem_cons.mpr ⟨lw_p0, List.forall_mem_cons.mpr ⟨lw_p1, List.forall_mem_cons.mpr ⟨lw_p2, List.forall_mem_cons.mpr ⟨lw_p3, List.forall_mem_cons.mpr ⟨lw_p4, List.forall_mem_cons.mpr ⟨lw_p5, List.forall_mem_cons.mpr ⟨lw_p6, List.forall_mem_cons.mpr ⟨lw_p7, List.forall_mem_cons.mpr ⟨lw_p8, List.forall_mem_cons.mpr ⟨lw_p9, List.forall_mem_cons.mpr ⟨lw_p10, List.forall_mem_cons.mpr ⟨lw_p11, List.forall_mem_cons.mpr ⟨lw_p12, List.forall_mem_cons.mpr ⟨lw_p13, List.forall_mem_cons.mpr ⟨lw_p14, List.forall_mem_cons.mpr ⟨lw_p15, fun _ h => absurd h List.not_mem_nil⟩⟩⟩⟩⟩⟩⟩⟩⟩⟩⟩⟩⟩⟩⟩⟩
theorem lw_p16 : lw_okq (⟨"RankBoardModel", "rungOf", "(I)I"⟩, 52) := ⟨⟨by decide +kernel, by decide +kernel⟩, List.mem_of_getElem? (i := 704) (by decide +kernel), List.mem_of_getElem? (i := 895) (by decide +kernel), List.mem_of_getElem? (i := 896) (by decide +kernel)⟩
theorem lw_p17 : lw_okq (⟨"RankBoardModel", "need", "(ZI)I"⟩, 52) := ⟨⟨by decide +kernel, by decide +kernel⟩, List.mem_of_getElem? (i := 704) (by decide +kernel), List.mem_of_getElem? (i := 903) (by decide +kernel), List.mem_of_getElem? (i := 904) (by decide +kernel)⟩
theorem lw_p18 : lw_okq (⟨"RankBoardModel", "toldOf", "(II)I"⟩, 52) := ⟨⟨by decide +kernel, by decide +kernel⟩, List.mem_of_getElem? (i := 704) (by decide +kernel), List.mem_of_getElem? (i := 907) (by decide +kernel), List.mem_of_getElem? (i := 908) (by decide +kernel)⟩
theorem lw_p19 : lw_okq (⟨"RankBoardModel", "priceOf", "(I)I"⟩, 52) := ⟨⟨by decide +kernel, by decide +kernel⟩, List.mem_of_getElem? (i := 704) (by decide +kernel), List.mem_of_getElem? (i := 954) (by decide +kernel), List.mem_of_getElem? (i := 955) (by decide +kernel)⟩
theorem lw_p20 : lw_okq (⟨"RankBoardModel", "barredBits", "(II)I"⟩, 52) := ⟨⟨by decide +kernel, by decide +kernel⟩, List.mem_of_getElem? (i := 704) (by decide +kernel), List.mem_of_getElem? (i := 970) (by decide +kernel), List.mem_of_getElem? (i := 971) (by decide +kernel)⟩
theorem lw_p21 : lw_okq (⟨"RankBoardModel", "layPairs", "()V"⟩, 52) := ⟨⟨by decide +kernel, by decide +kernel⟩, List.mem_of_getElem? (i := 704) (by decide +kernel), List.mem_of_getElem? (i := 978) (by decide +kernel), List.mem_of_getElem? (i := 979) (by decide +kernel)⟩
theorem lw_p22 : lw_okq (⟨"RankBoardModel", "layLeast", "()V"⟩, 52) := ⟨⟨by decide +kernel, by decide +kernel⟩, List.mem_of_getElem? (i := 704) (by decide +kernel), List.mem_of_getElem? (i := 982) (by decide +kernel), List.mem_of_getElem? (i := 983) (by decide +kernel)⟩
theorem lw_p23 : lw_okq (⟨"RankBoardModel", "first", "(I)I"⟩, 52) := ⟨⟨by decide +kernel, by decide +kernel⟩, List.mem_of_getElem? (i := 704) (by decide +kernel), List.mem_of_getElem? (i := 986) (by decide +kernel), List.mem_of_getElem? (i := 987) (by decide +kernel)⟩
theorem lw_p24 : lw_okq (⟨"RankBoardModel", "addBout", "(II)V"⟩, 52) := ⟨⟨by decide +kernel, by decide +kernel⟩, List.mem_of_getElem? (i := 704) (by decide +kernel), List.mem_of_getElem? (i := 990) (by decide +kernel), List.mem_of_getElem? (i := 991) (by decide +kernel)⟩
theorem lw_p25 : lw_okq (⟨"RankBoardModel", "boutTold", "(II)I"⟩, 52) := ⟨⟨by decide +kernel, by decide +kernel⟩, List.mem_of_getElem? (i := 704) (by decide +kernel), List.mem_of_getElem? (i := 1006) (by decide +kernel), List.mem_of_getElem? (i := 1007) (by decide +kernel)⟩
theorem lw_p26 : lw_okq (⟨"RankBoardModel", "lineFor", "(II)I"⟩, 52) := ⟨⟨by decide +kernel, by decide +kernel⟩, List.mem_of_getElem? (i := 704) (by decide +kernel), List.mem_of_getElem? (i := 1022) (by decide +kernel), List.mem_of_getElem? (i := 1023) (by decide +kernel)⟩
theorem lw_p27 : lw_okq (⟨"RankBoardModel", "order", "([I[II)V"⟩, 52) := ⟨⟨by decide +kernel, by decide +kernel⟩, List.mem_of_getElem? (i := 704) (by decide +kernel), List.mem_of_getElem? (i := 1026) (by decide +kernel), List.mem_of_getElem? (i := 1027) (by decide +kernel)⟩
theorem lw_p28 : lw_okq (⟨"RankBoardModel", "goesUp", "(II)I"⟩, 52) := ⟨⟨by decide +kernel, by decide +kernel⟩, List.mem_of_getElem? (i := 704) (by decide +kernel), List.mem_of_getElem? (i := 1030) (by decide +kernel), List.mem_of_getElem? (i := 1031) (by decide +kernel)⟩
theorem lw_p29 : lw_okq (⟨"RankBoardModel", "leaderBits", "()I"⟩, 52) := ⟨⟨by decide +kernel, by decide +kernel⟩, List.mem_of_getElem? (i := 704) (by decide +kernel), List.mem_of_getElem? (i := 1054) (by decide +kernel), List.mem_of_getElem? (i := 1055) (by decide +kernel)⟩
theorem lw_p30 : lw_okq (⟨"RankBoardModel", "left", "()I"⟩, 52) := ⟨⟨by decide +kernel, by decide +kernel⟩, List.mem_of_getElem? (i := 704) (by decide +kernel), List.mem_of_getElem? (i := 1062) (by decide +kernel), List.mem_of_getElem? (i := 1063) (by decide +kernel)⟩
def lw_privs_2 : List (MethodName × Nat) := [(⟨"RankBoardModel", "rungOf", "(I)I"⟩, 52), (⟨"RankBoardModel", "need", "(ZI)I"⟩, 52), (⟨"RankBoardModel", "toldOf", "(II)I"⟩, 52), (⟨"RankBoardModel", "priceOf", "(I)I"⟩, 52), (⟨"RankBoardModel", "barredBits", "(II)I"⟩, 52), (⟨"RankBoardModel", "layPairs", "()V"⟩, 52), (⟨"RankBoardModel", "layLeast", "()V"⟩, 52), (⟨"RankBoardModel", "first", "(I)I"⟩, 52), (⟨"RankBoardModel", "addBout", "(II)V"⟩, 52), (⟨"RankBoardModel", "boutTold", "(II)I"⟩, 52), (⟨"RankBoardModel", "lineFor", "(II)I"⟩, 52), (⟨"RankBoardModel", "order", "([I[II)V"⟩, 52), (⟨"RankBoardModel", "goesUp", "(II)I"⟩, 52), (⟨"RankBoardModel", "leaderBits", "()I"⟩, 52), (⟨"RankBoardModel", "left", "()I"⟩, 52)]
theorem lw_r2 : ∀ q ∈ lw_privs_2, lw_okq q := List.forall_mem_cons.mpr ⟨lw_p16, List.forall_mem_cons.mpr ⟨lw_p17, List.forall_mem_cons.mpr ⟨lw_p18, List.forall_mem_cons.mpr ⟨lw_p19, List.forall_mem_cons.mpr ⟨lw_p20, List.forall_mem_cons.mpr ⟨lw_p21, List.forall_mem_cons.mpr ⟨lw_p22, List.forall_mem_cons.mpr ⟨lw_p23, List.forall_mem_cons.mpr ⟨lw_p24, List.forall_mem_cons.mpr ⟨lw_p25, List.forall_mem_cons.mpr ⟨lw_p26, List.forall_mem_cons.mpr ⟨lw_p27, List.forall_mem_cons.mpr ⟨lw_p28, List.forall_mem_cons.mpr ⟨lw_p29, List.forall_mem_cons.mpr ⟨lw_p30, fun _ h => absurd h List.not_mem_nil⟩⟩⟩⟩⟩⟩⟩⟩⟩⟩⟩⟩⟩⟩⟩
def lw_privs : List (MethodName × Nat) := lw_privs_1 ++ (lw_privs_2)
def lw_tbl : List Cond := k2_sels lw_privs ++ tables_1
theorem lw_privs_ok : ∀ q ∈ lw_privs, lw_okq q := by
  show ∀ q ∈ lw_privs_1 ++ (lw_privs_2), lw_okq q
  exact List.forall_mem_append.mpr ⟨lw_r1, lw_r2⟩
end
section
def RX0 : String := "RankBoard$Custom"
def TX0 : u_T := fun k => match k with
  | 0 => ("RankBoard$Custom", "low", "[I", true)
  | 1 => ("RankBoard$Custom", "high", "[I", true)
  | 2 => ("RankBoard$Custom", "up", "[I", true)
  | _ => ("RankBoard$Custom", "lines", "I", false)
def tyX0 : Nat → FieldType := fun k => match k with
  | 0 => .array .int
  | 1 => .array .int
  | 2 => .array .int
  | _ => .int
abbrev wsX00 : List Cond := u_ws RX0 TX0 4
theorem nmX0 : ∀ a, a < 4 → ∀ b, b < 4 → a ≠ b → (TX0 a).2.1 ≠ (TX0 b).2.1 := by decide +kernel
theorem tyX0_ok : ∀ k, k < 4 → parseFieldDescriptor (TX0 k).2.2.1 = some (tyX0 k) := by decide +kernel
abbrev cX0_init : ByteArray := prog_2_method_1_code
def yX0_init : MethodName := ⟨RX0, "<init>", "()V"⟩
abbrev cX0_add : ByteArray := prog_2_method_2_code
def yX0_add : MethodName := ⟨RX0, "add", "(III)I"⟩
abbrev cX0_lineFor : ByteArray := prog_2_method_3_code
def yX0_lineFor : MethodName := ⟨RX0, "lineFor", "(II)I"⟩
abbrev cX0_steps : ByteArray := prog_2_method_4_code
def yX0_steps : MethodName := ⟨RX0, "steps", "(II)I"⟩
def RX1 : String := "RankBoard$Fitting"
def TX1 : u_T := fun k => match k with
  | 0 => ("RankBoard$Fitting", "who", "[I", true)
  | 1 => ("RankBoard$Fitting", "mate", "[I", true)
  | 2 => ("RankBoard$Fitting", "charge", "[[I", true)
  | 3 => ("RankBoard$Fitting", "leastPlusOne", "[I", true)
  | _ => ("RankBoard$Fitting", "size", "I", false)
def tyX1 : Nat → FieldType := fun k => match k with
  | 0 => .array .int
  | 1 => .array .int
  | 2 => .array (.array .int)
  | 3 => .array .int
  | _ => .int
abbrev wsX10 : List Cond := u_ws RX1 TX1 5
theorem nmX1 : ∀ a, a < 5 → ∀ b, b < 5 → a ≠ b → (TX1 a).2.1 ≠ (TX1 b).2.1 := by decide +kernel
theorem tyX1_ok : ∀ k, k < 5 → parseFieldDescriptor (TX1 k).2.2.1 = some (tyX1 k) := by decide +kernel
abbrev cX1_init : ByteArray := prog_3_method_1_code
def yX1_init : MethodName := ⟨RX1, "<init>", "()V"⟩
abbrev cX1_solve : ByteArray := prog_3_method_2_code
def yX1_solve : MethodName := ⟨RX1, "solve", "()I"⟩
abbrev cX1_bitOf : ByteArray := prog_3_method_3_code
def yX1_bitOf : MethodName := ⟨RX1, "bitOf", "(I)I"⟩
abbrev cX1_uppermostMate : ByteArray := prog_3_method_4_code
def yX1_uppermostMate : MethodName := ⟨RX1, "uppermostMate", "(III)I"⟩
abbrev cX1_leastCost : ByteArray := prog_3_method_5_code
def yX1_leastCost : MethodName := ⟨RX1, "leastCost", "(LRankBoard$Fitting;II)I"⟩
def RX2 : String := "RankBoard$Log"
def TX2 : u_T := fun k => match k with
  | 0 => ("RankBoard$Log", "times", "[I", true)
  | _ => ("RankBoard$Log", "latest", "I", false)
def tyX2 : Nat → FieldType := fun k => match k with
  | 0 => .array .int
  | _ => .int
abbrev wsX20 : List Cond := u_ws RX2 TX2 2
theorem nmX2 : ∀ a, a < 2 → ∀ b, b < 2 → a ≠ b → (TX2 a).2.1 ≠ (TX2 b).2.1 := by decide +kernel
theorem tyX2_ok : ∀ k, k < 2 → parseFieldDescriptor (TX2 k).2.2.1 = some (tyX2 k) := by decide +kernel
abbrev cX2_init : ByteArray := prog_4_method_1_code
def yX2_init : MethodName := ⟨RX2, "<init>", "()V"⟩
abbrev cX2_found : ByteArray := prog_4_method_2_code
def yX2_found : MethodName := ⟨RX2, "found", "(I)I"⟩
def RX3 : String := "RankBoard$Roster"
def TX3 : u_T := fun k => match k with
  | 0 => ("RankBoard$Roster", "kind", "[I", true)
  | 1 => ("RankBoard$Roster", "stable", "[I", true)
  | 2 => ("RankBoard$Roster", "kin", "[I", true)
  | 3 => ("RankBoard$Roster", "rungOf", "[I", true)
  | 4 => ("RankBoard$Roster", "wins", "[I", true)
  | 5 => ("RankBoard$Roster", "losses", "[I", true)
  | 6 => ("RankBoard$Roster", "titles", "[I", true)
  | 7 => ("RankBoard$Roster", "marks", "[I", true)
  | 8 => ("RankBoard$Roster", "gone", "[Z", true)
  | 9 => ("RankBoard$Roster", "away", "[Z", true)
  | 10 => ("RankBoard$Roster", "board", "[I", true)
  | 11 => ("RankBoard$Roster", "ever", "I", false)
  | _ => ("RankBoard$Roster", "standing", "I", false)
def tyX3 : Nat → FieldType := fun k => match k with
  | 0 => .array .int
  | 1 => .array .int
  | 2 => .array .int
  | 3 => .array .int
  | 4 => .array .int
  | 5 => .array .int
  | 6 => .array .int
  | 7 => .array .int
  | 8 => .array .boolean
  | 9 => .array .boolean
  | 10 => .array .int
  | 11 => .int
  | _ => .int
abbrev wsX30 : List Cond := u_ws RX3 TX3 13
theorem nmX3 : ∀ a, a < 13 → ∀ b, b < 13 → a ≠ b → (TX3 a).2.1 ≠ (TX3 b).2.1 := by decide +kernel
theorem tyX3_ok : ∀ k, k < 13 → parseFieldDescriptor (TX3 k).2.2.1 = some (tyX3 k) := by decide +kernel
abbrev cX3_init : ByteArray := prog_5_method_1_code
def yX3_init : MethodName := ⟨RX3, "<init>", "()V"⟩
abbrev cX3_knows : ByteArray := prog_5_method_2_code
def yX3_knows : MethodName := ⟨RX3, "knows", "(I)Z"⟩
abbrev cX3_isOf : ByteArray := prog_5_method_3_code
def yX3_isOf : MethodName := ⟨RX3, "isOf", "(II)Z"⟩
abbrev cX3_add : ByteArray := prog_5_method_4_code
def yX3_add : MethodName := ⟨RX3, "add", "(III)I"⟩
abbrev cX3_remove : ByteArray := prog_5_method_5_code
def yX3_remove : MethodName := ⟨RX3, "remove", "(I)I"⟩
abbrev cX3_place : ByteArray := prog_5_method_6_code
def yX3_place : MethodName := ⟨RX3, "place", "(II)V"⟩
abbrev cX3_clearScores : ByteArray := prog_5_method_7_code
def yX3_clearScores : MethodName := ⟨RX3, "clearScores", "()V"⟩
abbrev cX3_mostWins : ByteArray := prog_5_method_8_code
def yX3_mostWins : MethodName := ⟨RX3, "mostWins", "()I"⟩
abbrev cX3_fact : ByteArray := prog_5_method_9_code
def yX3_fact : MethodName := ⟨RX3, "fact", "(II)I"⟩
def RX4 : String := "RankBoard$Sheets"
def TX4 : u_T := fun k => match k with
  | 0 => ("RankBoard$Sheets", "bytes", "[[B", true)
  | 1 => ("RankBoard$Sheets", "size", "[I", true)
  | _ => ("RankBoard$Sheets", "teller", "I", false)
def tyX4 : Nat → FieldType := fun k => match k with
  | 0 => .array (.array .byte)
  | 1 => .array .int
  | _ => .int
abbrev wsX40 : List Cond := u_ws RX4 TX4 3
theorem nmX4 : ∀ a, a < 3 → ∀ b, b < 3 → a ≠ b → (TX4 a).2.1 ≠ (TX4 b).2.1 := by decide +kernel
theorem tyX4_ok : ∀ k, k < 3 → parseFieldDescriptor (TX4 k).2.2.1 = some (tyX4 k) := by decide +kernel
abbrev cX4_init : ByteArray := prog_6_method_1_code
def yX4_init : MethodName := ⟨RX4, "<init>", "()V"⟩
abbrev cX4_isMissing : ByteArray := prog_6_method_2_code
def yX4_isMissing : MethodName := ⟨RX4, "isMissing", "(I)Z"⟩
abbrev cX4_blank : ByteArray := prog_6_method_3_code
def yX4_blank : MethodName := ⟨RX4, "blank", "(II)V"⟩
abbrev cX4_replace : ByteArray := prog_6_method_4_code
def yX4_replace : MethodName := ⟨RX4, "replace", "(IIB)I"⟩
abbrev cX4_holds : ByteArray := prog_6_method_5_code
def yX4_holds : MethodName := ⟨RX4, "holds", "(III)Z"⟩
abbrev cX4_priceOf : ByteArray := prog_6_method_6_code
def yX4_priceOf : MethodName := ⟨RX4, "priceOf", "(I)I"⟩
def RX5 : String := "RankBoard$TitleRow"
def TX5 : u_T := fun k => match k with
  | 0 => ("RankBoard$TitleRow", "row", "[I", true)
  | 1 => ("RankBoard$TitleRow", "left", "I", false)
  | 2 => ("RankBoard$TitleRow", "begun", "Z", false)
  | _ => ("RankBoard$TitleRow", "holder", "I", false)
def tyX5 : Nat → FieldType := fun k => match k with
  | 0 => .array .int
  | 1 => .int
  | 2 => .boolean
  | _ => .int
abbrev wsX50 : List Cond := u_ws RX5 TX5 4
theorem nmX5 : ∀ a, a < 4 → ∀ b, b < 4 → a ≠ b → (TX5 a).2.1 ≠ (TX5 b).2.1 := by decide +kernel
theorem tyX5_ok : ∀ k, k < 4 → parseFieldDescriptor (TX5 k).2.2.1 = some (tyX5 k) := by decide +kernel
abbrev cX5_init : ByteArray := prog_7_method_1_code
def yX5_init : MethodName := ⟨RX5, "<init>", "()V"⟩
abbrev cX5_clear : ByteArray := prog_7_method_2_code
def yX5_clear : MethodName := ⟨RX5, "clear", "()V"⟩
abbrev cX5_goesOn : ByteArray := prog_7_method_3_code
def yX5_goesOn : MethodName := ⟨RX5, "goesOn", "()Z"⟩
abbrev cX5_append : ByteArray := prog_7_method_4_code
def yX5_append : MethodName := ⟨RX5, "append", "(I)V"⟩
abbrev cX5_settle : ByteArray := prog_7_method_5_code
def yX5_settle : MethodName := ⟨RX5, "settle", "(Z)V"⟩
def RX6 : String := "RankBoard$Tourney"
def TX6 : u_T := fun k => match k with
  | 0 => ("RankBoard$Tourney", "day", "[I", true)
  | 1 => ("RankBoard$Tourney", "upper", "[I", true)
  | 2 => ("RankBoard$Tourney", "lower", "[I", true)
  | 3 => ("RankBoard$Tourney", "winner", "[I", true)
  | 4 => ("RankBoard$Tourney", "metBits", "[I", true)
  | 5 => ("RankBoard$Tourney", "going", "Z", false)
  | 6 => ("RankBoard$Tourney", "days", "I", false)
  | 7 => ("RankBoard$Tourney", "drawn", "I", false)
  | 8 => ("RankBoard$Tourney", "bouts", "I", false)
  | 9 => ("RankBoard$Tourney", "lacking", "I", false)
  | 10 => ("RankBoard$Tourney", "cost", "I", false)
  | _ => ("RankBoard$Tourney", "satOut", "I", false)
def tyX6 : Nat → FieldType := fun k => match k with
  | 0 => .array .int
  | 1 => .array .int
  | 2 => .array .int
  | 3 => .array .int
  | 4 => .array .int
  | 5 => .boolean
  | 6 => .int
  | 7 => .int
  | 8 => .int
  | 9 => .int
  | 10 => .int
  | _ => .int
abbrev wsX60 : List Cond := u_ws RX6 TX6 12
theorem nmX6 : ∀ a, a < 12 → ∀ b, b < 12 → a ≠ b → (TX6 a).2.1 ≠ (TX6 b).2.1 := by decide +kernel
theorem tyX6_ok : ∀ k, k < 12 → parseFieldDescriptor (TX6 k).2.2.1 = some (tyX6 k) := by decide +kernel
abbrev cX6_init : ByteArray := prog_8_method_1_code
def yX6_init : MethodName := ⟨RX6, "<init>", "()V"⟩
abbrev cX6_begin : ByteArray := prog_8_method_2_code
def yX6_begin : MethodName := ⟨RX6, "begin", "(I)V"⟩
abbrev cX6_isComplete : ByteArray := prog_8_method_3_code
def yX6_isComplete : MethodName := ⟨RX6, "isComplete", "()Z"⟩
abbrev cX6_knows : ByteArray := prog_8_method_4_code
def yX6_knows : MethodName := ⟨RX6, "knows", "(I)Z"⟩
abbrev cX6_haveMet : ByteArray := prog_8_method_5_code
def yX6_haveMet : MethodName := ⟨RX6, "haveMet", "(II)Z"⟩
abbrev cX6_addBout : ByteArray := prog_8_method_6_code
def yX6_addBout : MethodName := ⟨RX6, "addBout", "(II)V"⟩
abbrev cX6_loserOf : ByteArray := prog_8_method_7_code
def yX6_loserOf : MethodName := ⟨RX6, "loserOf", "(I)I"⟩
abbrev cX6_fact : ByteArray := prog_8_method_8_code
def yX6_fact : MethodName := ⟨RX6, "fact", "(II)I"⟩
def RX7 : String := "RankBoard$Writing"
def TX7 : u_T := fun k => match k with
  | 0 => ("RankBoard$Writing", "formerBoard", "[I", true)
  | 1 => ("RankBoard$Writing", "before", "[I", true)
  | 2 => ("RankBoard$Writing", "after", "[I", true)
  | 3 => ("RankBoard$Writing", "byLine", "[I", true)
  | 4 => ("RankBoard$Writing", "aside", "[I", true)
  | 5 => ("RankBoard$Writing", "order", "[I", true)
  | 6 => ("RankBoard$Writing", "aims", "[I", true)
  | 7 => ("RankBoard$Writing", "standing", "I", false)
  | 8 => ("RankBoard$Writing", "linesThen", "I", false)
  | 9 => ("RankBoard$Writing", "times", "I", false)
  | _ => ("RankBoard$Writing", "fresh", "Z", false)
def tyX7 : Nat → FieldType := fun k => match k with
  | 0 => .array .int
  | 1 => .array .int
  | 2 => .array .int
  | 3 => .array .int
  | 4 => .array .int
  | 5 => .array .int
  | 6 => .array .int
  | 7 => .int
  | 8 => .int
  | 9 => .int
  | _ => .boolean
abbrev wsX70 : List Cond := u_ws RX7 TX7 11
theorem nmX7 : ∀ a, a < 11 → ∀ b, b < 11 → a ≠ b → (TX7 a).2.1 ≠ (TX7 b).2.1 := by decide +kernel
theorem tyX7_ok : ∀ k, k < 11 → parseFieldDescriptor (TX7 k).2.2.1 = some (tyX7 k) := by decide +kernel
abbrev cX7_init : ByteArray := prog_9_method_1_code
def yX7_init : MethodName := ⟨RX7, "<init>", "()V"⟩
abbrev cX7_recall : ByteArray := prog_9_method_2_code
def yX7_recall : MethodName := ⟨RX7, "recall", "(LRankBoard$Roster;I)V"⟩
abbrev cX7_aimAt : ByteArray := prog_9_method_3_code
def yX7_aimAt : MethodName := ⟨RX7, "aimAt", "(II)V"⟩
abbrev cX7_arrange : ByteArray := prog_9_method_4_code
def yX7_arrange : MethodName := ⟨RX7, "arrange", "()V"⟩
abbrev cX7_differing : ByteArray := prog_9_method_5_code
def yX7_differing : MethodName := ⟨RX7, "differing", "([I)I"⟩
abbrev cX7_overtook : ByteArray := prog_9_method_6_code
def yX7_overtook : MethodName := ⟨RX7, "overtook", "(II)Z"⟩
def RX8 : String := "RankBoard"
def TX8 : u_T := fun k => match k with
  | 0 => ("RankBoard", "log", "LRankBoard$Log;", true)
  | 1 => ("RankBoard", "roster", "LRankBoard$Roster;", true)
  | 2 => ("RankBoard", "sheets", "LRankBoard$Sheets;", true)
  | 3 => ("RankBoard", "tourney", "LRankBoard$Tourney;", true)
  | 4 => ("RankBoard", "fitting", "LRankBoard$Fitting;", true)
  | 5 => ("RankBoard", "custom", "LRankBoard$Custom;", true)
  | 6 => ("RankBoard", "writing", "LRankBoard$Writing;", true)
  | _ => ("RankBoard", "titleRow", "LRankBoard$TitleRow;", true)
def tyX8 : Nat → FieldType := fun k => match k with
  | 0 => .object "RankBoard$Log"
  | 1 => .object "RankBoard$Roster"
  | 2 => .object "RankBoard$Sheets"
  | 3 => .object "RankBoard$Tourney"
  | 4 => .object "RankBoard$Fitting"
  | 5 => .object "RankBoard$Custom"
  | 6 => .object "RankBoard$Writing"
  | _ => .object "RankBoard$TitleRow"
abbrev wsX80 : List Cond := u_ws RX8 TX8 8
theorem nmX8 : ∀ a, a < 8 → ∀ b, b < 8 → a ≠ b → (TX8 a).2.1 ≠ (TX8 b).2.1 := by decide +kernel
theorem tyX8_ok : ∀ k, k < 8 → parseFieldDescriptor (TX8 k).2.2.1 = some (tyX8 k) := by decide +kernel
abbrev cX8_init : ByteArray := prog_1_method_1_code
def yX8_init : MethodName := ⟨RX8, "<init>", "()V"⟩
abbrev cX8_wrestler : ByteArray := prog_1_method_2_code
def yX8_wrestler : MethodName := ⟨RX8, "wrestler", "(III)I"⟩
abbrev cX8_leave : ByteArray := prog_1_method_3_code
def yX8_leave : MethodName := ⟨RX8, "leave", "(I)I"⟩
abbrev cX8_told : ByteArray := prog_1_method_4_code
def yX8_told : MethodName := ⟨RX8, "told", "(II)I"⟩
abbrev cX8_is : ByteArray := prog_1_method_5_code
def yX8_is : MethodName := ⟨RX8, "is", "(II)I"⟩
abbrev cX8_on : ByteArray := prog_1_method_6_code
def yX8_on : MethodName := ⟨RX8, "on", "(I)I"⟩
abbrev cX8_mark : ByteArray := prog_1_method_7_code
def yX8_mark : MethodName := ⟨RX8, "mark", "(II)I"⟩
abbrev cX8_mean : ByteArray := prog_1_method_8_code
def yX8_mean : MethodName := ⟨RX8, "mean", "(I)I"⟩
abbrev cX8_sheet : ByteArray := prog_1_method_9_code
def yX8_sheet : MethodName := ⟨RX8, "sheet", "(II)I"⟩
abbrev cX8_lay : ByteArray := prog_1_method_10_code
def yX8_lay : MethodName := ⟨RX8, "lay", "(III)I"⟩
abbrev cX8_tear : ByteArray := prog_1_method_11_code
def yX8_tear : MethodName := ⟨RX8, "tear", "(I)I"⟩
abbrev cX8_copy : ByteArray := prog_1_method_12_code
def yX8_copy : MethodName := ⟨RX8, "copy", "(IIIII)I"⟩
abbrev cX8_prices : ByteArray := prog_1_method_13_code
def yX8_prices : MethodName := ⟨RX8, "prices", "(I)I"⟩
abbrev cX8_price : ByteArray := prog_1_method_14_code
def yX8_price : MethodName := ⟨RX8, "price", "(I)I"⟩
abbrev cX8_meet : ByteArray := prog_1_method_15_code
def yX8_meet : MethodName := ⟨RX8, "meet", "(I)I"⟩
abbrev cX8_absent : ByteArray := prog_1_method_16_code
def yX8_absent : MethodName := ⟨RX8, "absent", "(IZ)I"⟩
abbrev cX8_barred : ByteArray := prog_1_method_17_code
def yX8_barred : MethodName := ⟨RX8, "barred", "(II)I"⟩
abbrev cX8_draw : ByteArray := prog_1_method_18_code
def yX8_draw : MethodName := ⟨RX8, "draw", "()I"⟩
abbrev cX8_cost : ByteArray := prog_1_method_19_code
def yX8_cost : MethodName := ⟨RX8, "cost", "()I"⟩
abbrev cX8_result : ByteArray := prog_1_method_20_code
def yX8_result : MethodName := ⟨RX8, "result", "(IZ)I"⟩
abbrev cX8_bout : ByteArray := prog_1_method_21_code
def yX8_bout : MethodName := ⟨RX8, "bout", "(II)I"⟩
abbrev cX8_sat : ByteArray := prog_1_method_22_code
def yX8_sat : MethodName := ⟨RX8, "sat", "()I"⟩
abbrev cX8_line : ByteArray := prog_1_method_23_code
def yX8_line : MethodName := ⟨RX8, "line", "(III)I"⟩
abbrev cX8_anew : ByteArray := prog_1_method_24_code
def yX8_anew : MethodName := ⟨RX8, "anew", "()I"⟩
abbrev cX8_why : ByteArray := prog_1_method_25_code
def yX8_why : MethodName := ⟨RX8, "why", "(I)I"⟩
abbrev cX8_passed : ByteArray := prog_1_method_26_code
def yX8_passed : MethodName := ⟨RX8, "passed", "(II)I"⟩
abbrev cX8_beside : ByteArray := prog_1_method_27_code
def yX8_beside : MethodName := ⟨RX8, "beside", "(I)I"⟩
abbrev cX8_rungBeside : ByteArray := prog_1_method_28_code
def yX8_rungBeside : MethodName := ⟨RX8, "rungBeside", "(I)I"⟩
abbrev cX8_leaders : ByteArray := prog_1_method_29_code
def yX8_leaders : MethodName := ⟨RX8, "leaders", "()I"⟩
abbrev cX8_playOff : ByteArray := prog_1_method_30_code
def yX8_playOff : MethodName := ⟨RX8, "playOff", "()I"⟩
abbrev cX8_meets : ByteArray := prog_1_method_31_code
def yX8_meets : MethodName := ⟨RX8, "meets", "(Z)I"⟩
abbrev cX8_wins : ByteArray := prog_1_method_32_code
def yX8_wins : MethodName := ⟨RX8, "wins", "(Z)I"⟩
abbrev cX8_champion : ByteArray := prog_1_method_33_code
def yX8_champion : MethodName := ⟨RX8, "champion", "()I"⟩
abbrev cX8_count : ByteArray := prog_1_method_34_code
def yX8_count : MethodName := ⟨RX8, "count", "(I)I"⟩
abbrev cX8_finding : ByteArray := prog_1_method_35_code
def yX8_finding : MethodName := ⟨RX8, "finding", "()I"⟩
abbrev cX8_findings : ByteArray := prog_1_method_36_code
def yX8_findings : MethodName := ⟨RX8, "findings", "(I)I"⟩
abbrev cX8_digest : ByteArray := prog_1_method_37_code
def yX8_digest : MethodName := ⟨RX8, "digest", "()J"⟩
abbrev cX8_isKind : ByteArray := prog_1_method_38_code
def yX8_isKind : MethodName := ⟨RX8, "isKind", "(I)Z"⟩
abbrev cX8_isGroup : ByteArray := prog_1_method_39_code
def yX8_isGroup : MethodName := ⟨RX8, "isGroup", "(I)Z"⟩
abbrev cX8_isSheet : ByteArray := prog_1_method_40_code
def yX8_isSheet : MethodName := ⟨RX8, "isSheet", "(I)Z"⟩
abbrev cX8_refusalOf : ByteArray := prog_1_method_41_code
def yX8_refusalOf : MethodName := ⟨RX8, "refusalOf", "(I)I"⟩
abbrev cX8_barsBetween : ByteArray := prog_1_method_42_code
def yX8_barsBetween : MethodName := ⟨RX8, "barsBetween", "(II)I"⟩
abbrev cX8_gatherThosePresent : ByteArray := prog_1_method_43_code
def yX8_gatherThosePresent : MethodName := ⟨RX8, "gatherThosePresent", "()V"⟩
abbrev cX8_setCharges : ByteArray := prog_1_method_44_code
def yX8_setCharges : MethodName := ⟨RX8, "setCharges", "()V"⟩
abbrev cX8_chargeFor : ByteArray := prog_1_method_45_code
def yX8_chargeFor : MethodName := ⟨RX8, "chargeFor", "(II)I"⟩
abbrev cX8_enterDay : ByteArray := prog_1_method_46_code
def yX8_enterDay : MethodName := ⟨RX8, "enterDay", "()I"⟩
abbrev cX8_moveByCustom : ByteArray := prog_1_method_47_code
def yX8_moveByCustom : MethodName := ⟨RX8, "moveByCustom", "(I)V"⟩
abbrev cX8_scoreWithout : ByteArray := prog_1_method_48_code
def yX8_scoreWithout : MethodName := ⟨RX8, "scoreWithout", "(II)I"⟩
abbrev cX8_crownIfAlone : ByteArray := prog_1_method_49_code
def yX8_crownIfAlone : MethodName := ⟨RX8, "crownIfAlone", "()V"⟩
abbrev cX8_tally : ByteArray := prog_1_method_50_code
def yX8_tally : MethodName := ⟨RX8, "tally", "(I)I"⟩
abbrev cX8_withWrestler : ByteArray := prog_1_method_51_code
def yX8_withWrestler : MethodName := ⟨RX8, "withWrestler", "(JI)J"⟩
abbrev cX8_withSheet : ByteArray := prog_1_method_52_code
def yX8_withSheet : MethodName := ⟨RX8, "withSheet", "(JI)J"⟩
def RX9 : String := "RankBoardModel"
def TX9 : u_T := fun k => match k with
  | 0 => ("RankBoardModel", "latest", "I", false)
  | 1 => ("RankBoardModel", "came", "[I", true)
  | 2 => ("RankBoardModel", "ever", "I", false)
  | 3 => ("RankBoardModel", "kindOf", "[I", true)
  | 4 => ("RankBoardModel", "stableOf", "[I", true)
  | 5 => ("RankBoardModel", "kinOf", "[I", true)
  | 6 => ("RankBoardModel", "hasLeft", "[Z", true)
  | 7 => ("RankBoardModel", "isAbsent", "[Z", true)
  | 8 => ("RankBoardModel", "winsOf", "[I", true)
  | 9 => ("RankBoardModel", "lossesOf", "[I", true)
  | 10 => ("RankBoardModel", "titles", "[I", true)
  | 11 => ("RankBoardModel", "marks", "[I", true)
  | 12 => ("RankBoardModel", "there", "I", false)
  | 13 => ("RankBoardModel", "rungs", "[I", true)
  | 14 => ("RankBoardModel", "isMeet", "Z", false)
  | 15 => ("RankBoardModel", "sheetSize", "[I", true)
  | 16 => ("RankBoardModel", "sheets", "[B", true)
  | 17 => ("RankBoardModel", "priceSheet", "I", false)
  | 18 => ("RankBoardModel", "copied", "[B", true)
  | 19 => ("RankBoardModel", "days", "I", false)
  | 20 => ("RankBoardModel", "drawn", "I", false)
  | 21 => ("RankBoardModel", "bouts", "I", false)
  | 22 => ("RankBoardModel", "boutDay", "[I", true)
  | 23 => ("RankBoardModel", "boutUpper", "[I", true)
  | 24 => ("RankBoardModel", "boutLower", "[I", true)
  | 25 => ("RankBoardModel", "boutWon", "[I", true)
  | 26 => ("RankBoardModel", "lacking", "I", false)
  | 27 => ("RankBoardModel", "cost", "I", false)
  | 28 => ("RankBoardModel", "satOut", "I", false)
  | 29 => ("RankBoardModel", "present", "[I", true)
  | 30 => ("RankBoardModel", "presentMany", "I", false)
  | 31 => ("RankBoardModel", "pairCost", "[I", true)
  | 32 => ("RankBoardModel", "leastOf", "[I", true)
  | 33 => ("RankBoardModel", "lines", "I", false)
  | 34 => ("RankBoardModel", "lineLow", "[I", true)
  | 35 => ("RankBoardModel", "lineHigh", "[I", true)
  | 36 => ("RankBoardModel", "lineUp", "[I", true)
  | 37 => ("RankBoardModel", "writtenTimes", "I", false)
  | 38 => ("RankBoardModel", "isWritten", "Z", false)
  | 39 => ("RankBoardModel", "writtenLines", "I", false)
  | 40 => ("RankBoardModel", "whyOf", "[I", true)
  | 41 => ("RankBoardModel", "oldRung", "[I", true)
  | 42 => ("RankBoardModel", "writtenRung", "[I", true)
  | 43 => ("RankBoardModel", "besideRung", "[I", true)
  | 44 => ("RankBoardModel", "aimOf", "[I", true)
  | 45 => ("RankBoardModel", "ordered", "[I", true)
  | 46 => ("RankBoardModel", "scores", "[I", true)
  | 47 => ("RankBoardModel", "boardBefore", "[I", true)
  | 48 => ("RankBoardModel", "hadPlayOff", "Z", false)
  | 49 => ("RankBoardModel", "playMany", "I", false)
  | 50 => ("RankBoardModel", "play", "[I", true)
  | _ => ("RankBoardModel", "champion", "I", false)
def tyX9 : Nat → FieldType := fun k => match k with
  | 0 => .int
  | 1 => .array .int
  | 2 => .int
  | 3 => .array .int
  | 4 => .array .int
  | 5 => .array .int
  | 6 => .array .boolean
  | 7 => .array .boolean
  | 8 => .array .int
  | 9 => .array .int
  | 10 => .array .int
  | 11 => .array .int
  | 12 => .int
  | 13 => .array .int
  | 14 => .boolean
  | 15 => .array .int
  | 16 => .array .byte
  | 17 => .int
  | 18 => .array .byte
  | 19 => .int
  | 20 => .int
  | 21 => .int
  | 22 => .array .int
  | 23 => .array .int
  | 24 => .array .int
  | 25 => .array .int
  | 26 => .int
  | 27 => .int
  | 28 => .int
  | 29 => .array .int
  | 30 => .int
  | 31 => .array .int
  | 32 => .array .int
  | 33 => .int
  | 34 => .array .int
  | 35 => .array .int
  | 36 => .array .int
  | 37 => .int
  | 38 => .boolean
  | 39 => .int
  | 40 => .array .int
  | 41 => .array .int
  | 42 => .array .int
  | 43 => .array .int
  | 44 => .array .int
  | 45 => .array .int
  | 46 => .array .int
  | 47 => .array .int
  | 48 => .boolean
  | 49 => .int
  | 50 => .array .int
  | _ => .int
abbrev wsX90 : List Cond := u_ws RX9 TX9 52
theorem nmX9 : ∀ a, a < 52 → ∀ b, b < 52 → a ≠ b → (TX9 a).2.1 ≠ (TX9 b).2.1 := by decide +kernel
theorem tyX9_ok : ∀ k, k < 52 → parseFieldDescriptor (TX9 k).2.2.1 = some (tyX9 k) := by decide +kernel
abbrev cX9_init : ByteArray := prog_11_method_1_code
def yX9_init : MethodName := ⟨RX9, "<init>", "()V"⟩
abbrev cX9_in : ByteArray := prog_11_method_2_code
def yX9_in : MethodName := ⟨RX9, "in", "(III)Z"⟩
abbrev cX9_meets : ByteArray := prog_11_method_3_code
def yX9_meets : MethodName := ⟨RX9, "meets", "(I)I"⟩
abbrev cX9_finding : ByteArray := prog_11_method_4_code
def yX9_finding : MethodName := ⟨RX9, "finding", "()I"⟩
abbrev cX9_findings : ByteArray := prog_11_method_5_code
def yX9_findings : MethodName := ⟨RX9, "findings", "(I)I"⟩
abbrev cX9_rungOf : ByteArray := prog_11_method_6_code
def yX9_rungOf : MethodName := ⟨RX9, "rungOf", "(I)I"⟩
abbrev cX9_wrestler : ByteArray := prog_11_method_7_code
def yX9_wrestler : MethodName := ⟨RX9, "wrestler", "(III)I"⟩
abbrev cX9_isOne : ByteArray := prog_11_method_8_code
def yX9_isOne : MethodName := ⟨RX9, "isOne", "(I)Z"⟩
abbrev cX9_need : ByteArray := prog_11_method_9_code
def yX9_need : MethodName := ⟨RX9, "need", "(ZI)I"⟩
abbrev cX9_leave : ByteArray := prog_11_method_10_code
def yX9_leave : MethodName := ⟨RX9, "leave", "(I)I"⟩
abbrev cX9_toldOf : ByteArray := prog_11_method_11_code
def yX9_toldOf : MethodName := ⟨RX9, "toldOf", "(II)I"⟩
abbrev cX9_told : ByteArray := prog_11_method_12_code
def yX9_told : MethodName := ⟨RX9, "told", "(II)I"⟩
abbrev cX9_is : ByteArray := prog_11_method_13_code
def yX9_is : MethodName := ⟨RX9, "is", "(II)I"⟩
abbrev cX9_on : ByteArray := prog_11_method_14_code
def yX9_on : MethodName := ⟨RX9, "on", "(I)I"⟩
abbrev cX9_mark : ByteArray := prog_11_method_15_code
def yX9_mark : MethodName := ⟨RX9, "mark", "(II)I"⟩
abbrev cX9_mean : ByteArray := prog_11_method_16_code
def yX9_mean : MethodName := ⟨RX9, "mean", "(I)I"⟩
abbrev cX9_isSheet : ByteArray := prog_11_method_17_code
def yX9_isSheet : MethodName := ⟨RX9, "isSheet", "(I)Z"⟩
abbrev cX9_sheet : ByteArray := prog_11_method_18_code
def yX9_sheet : MethodName := ⟨RX9, "sheet", "(II)I"⟩
abbrev cX9_lay : ByteArray := prog_11_method_19_code
def yX9_lay : MethodName := ⟨RX9, "lay", "(III)I"⟩
abbrev cX9_tear : ByteArray := prog_11_method_20_code
def yX9_tear : MethodName := ⟨RX9, "tear", "(I)I"⟩
abbrev cX9_copy : ByteArray := prog_11_method_21_code
def yX9_copy : MethodName := ⟨RX9, "copy", "(IIIII)I"⟩
abbrev cX9_prices : ByteArray := prog_11_method_22_code
def yX9_prices : MethodName := ⟨RX9, "prices", "(I)I"⟩
abbrev cX9_priceOf : ByteArray := prog_11_method_23_code
def yX9_priceOf : MethodName := ⟨RX9, "priceOf", "(I)I"⟩
abbrev cX9_price : ByteArray := prog_11_method_24_code
def yX9_price : MethodName := ⟨RX9, "price", "(I)I"⟩
abbrev cX9_meet : ByteArray := prog_11_method_25_code
def yX9_meet : MethodName := ⟨RX9, "meet", "(I)I"⟩
abbrev cX9_absent : ByteArray := prog_11_method_26_code
def yX9_absent : MethodName := ⟨RX9, "absent", "(IZ)I"⟩
abbrev cX9_barredBits : ByteArray := prog_11_method_27_code
def yX9_barredBits : MethodName := ⟨RX9, "barredBits", "(II)I"⟩
abbrev cX9_barred : ByteArray := prog_11_method_28_code
def yX9_barred : MethodName := ⟨RX9, "barred", "(II)I"⟩
abbrev cX9_layPairs : ByteArray := prog_11_method_29_code
def yX9_layPairs : MethodName := ⟨RX9, "layPairs", "()V"⟩
abbrev cX9_first : ByteArray := prog_11_method_30_code
def yX9_first : MethodName := ⟨RX9, "first", "(I)I"⟩
abbrev cX9_layLeast : ByteArray := prog_11_method_31_code
def yX9_layLeast : MethodName := ⟨RX9, "layLeast", "()V"⟩
abbrev cX9_addBout : ByteArray := prog_11_method_32_code
def yX9_addBout : MethodName := ⟨RX9, "addBout", "(II)V"⟩
abbrev cX9_draw : ByteArray := prog_11_method_33_code
def yX9_draw : MethodName := ⟨RX9, "draw", "()I"⟩
abbrev cX9_cost : ByteArray := prog_11_method_34_code
def yX9_cost : MethodName := ⟨RX9, "cost", "()I"⟩
abbrev cX9_result : ByteArray := prog_11_method_35_code
def yX9_result : MethodName := ⟨RX9, "result", "(IZ)I"⟩
abbrev cX9_boutTold : ByteArray := prog_11_method_36_code
def yX9_boutTold : MethodName := ⟨RX9, "boutTold", "(II)I"⟩
abbrev cX9_bout : ByteArray := prog_11_method_37_code
def yX9_bout : MethodName := ⟨RX9, "bout", "(II)I"⟩
abbrev cX9_sat : ByteArray := prog_11_method_38_code
def yX9_sat : MethodName := ⟨RX9, "sat", "()I"⟩
abbrev cX9_line : ByteArray := prog_11_method_39_code
def yX9_line : MethodName := ⟨RX9, "line", "(III)I"⟩
abbrev cX9_lineFor : ByteArray := prog_11_method_40_code
def yX9_lineFor : MethodName := ⟨RX9, "lineFor", "(II)I"⟩
abbrev cX9_goesUp : ByteArray := prog_11_method_41_code
def yX9_goesUp : MethodName := ⟨RX9, "goesUp", "(II)I"⟩
abbrev cX9_order : ByteArray := prog_11_method_42_code
def yX9_order : MethodName := ⟨RX9, "order", "([I[II)V"⟩
abbrev cX9_anew : ByteArray := prog_11_method_43_code
def yX9_anew : MethodName := ⟨RX9, "anew", "()I"⟩
abbrev cX9_why : ByteArray := prog_11_method_44_code
def yX9_why : MethodName := ⟨RX9, "why", "(I)I"⟩
abbrev cX9_passed : ByteArray := prog_11_method_45_code
def yX9_passed : MethodName := ⟨RX9, "passed", "(II)I"⟩
abbrev cX9_beside : ByteArray := prog_11_method_46_code
def yX9_beside : MethodName := ⟨RX9, "beside", "(I)I"⟩
abbrev cX9_rungBeside : ByteArray := prog_11_method_47_code
def yX9_rungBeside : MethodName := ⟨RX9, "rungBeside", "(I)I"⟩
abbrev cX9_leaderBits : ByteArray := prog_11_method_48_code
def yX9_leaderBits : MethodName := ⟨RX9, "leaderBits", "()I"⟩
abbrev cX9_leaders : ByteArray := prog_11_method_49_code
def yX9_leaders : MethodName := ⟨RX9, "leaders", "()I"⟩
abbrev cX9_left : ByteArray := prog_11_method_50_code
def yX9_left : MethodName := ⟨RX9, "left", "()I"⟩
abbrev cX9_playOff : ByteArray := prog_11_method_51_code
def yX9_playOff : MethodName := ⟨RX9, "playOff", "()I"⟩
abbrev cX9_meets_ : ByteArray := prog_11_method_52_code
def yX9_meets_ : MethodName := ⟨RX9, "meets", "(Z)I"⟩
abbrev cX9_wins : ByteArray := prog_11_method_53_code
def yX9_wins : MethodName := ⟨RX9, "wins", "(Z)I"⟩
abbrev cX9_champion : ByteArray := prog_11_method_54_code
def yX9_champion : MethodName := ⟨RX9, "champion", "()I"⟩
abbrev cX9_count : ByteArray := prog_11_method_55_code
def yX9_count : MethodName := ⟨RX9, "count", "(I)I"⟩
abbrev cX9_digest : ByteArray := prog_11_method_56_code
def yX9_digest : MethodName := ⟨RX9, "digest", "()J"⟩
def RJ9 : String := "java/lang/Math"
def TJ9 : u_T := fun k => match k with
  | _ => ("", "", "", false)
def tyJ9 : Nat → FieldType := fun k => match k with
  | _ => .int
abbrev wsJ90 : List Cond := u_ws RJ9 TJ9 0
theorem nmJ9 : ∀ a, a < 0 → ∀ b, b < 0 → a ≠ b → (TJ9 a).2.1 ≠ (TJ9 b).2.1 := by decide +kernel
theorem tyJ9_ok : ∀ k, k < 0 → parseFieldDescriptor (TJ9 k).2.2.1 = some (tyJ9 k) := by decide +kernel
abbrev cJ9_abs_0f7a4 : ByteArray := prog_12_method_59_code
def yJ9_abs_0f7a4 : MethodName := ⟨RJ9, "abs", "(I)I"⟩
abbrev cJ9_max_7cf53 : ByteArray := prog_12_method_65_code
def yJ9_max_7cf53 : MethodName := ⟨RJ9, "max", "(II)I"⟩
abbrev cJ9_min_7cf53 : ByteArray := prog_12_method_69_code
def yJ9_min_7cf53 : MethodName := ⟨RJ9, "min", "(II)I"⟩
def RJ10 : String := "java/lang/System"
def TJ10 : u_T := fun k => match k with
  | _ => ("", "", "", false)
def tyJ10 : Nat → FieldType := fun k => match k with
  | _ => .int
abbrev wsJ100 : List Cond := u_ws RJ10 TJ10 0
theorem nmJ10 : ∀ a, a < 0 → ∀ b, b < 0 → a ≠ b → (TJ10 a).2.1 ≠ (TJ10 b).2.1 := by decide +kernel
theorem tyJ10_ok : ∀ k, k < 0 → parseFieldDescriptor (TJ10 k).2.2.1 = some (tyJ10 k) := by decide +kernel
def RJ7 : String := "java/util/Arrays"
def TJ7 : u_T := fun k => match k with
  | _ => ("", "", "", false)
def tyJ7 : Nat → FieldType := fun k => match k with
  | _ => .int
abbrev wsJ70 : List Cond := u_ws RJ7 TJ7 0
theorem nmJ7 : ∀ a, a < 0 → ∀ b, b < 0 → a ≠ b → (TJ7 a).2.1 ≠ (TJ7 b).2.1 := by decide +kernel
theorem tyJ7_ok : ∀ k, k < 0 → parseFieldDescriptor (TJ7 k).2.2.1 = some (tyJ7 k) := by decide +kernel
abbrev cJ7_rangeCheck_23922 : ByteArray := prog_14_method_30_code
def yJ7_rangeCheck_23922 : MethodName := ⟨RJ7, "rangeCheck", "(III)V"⟩
abbrev cJ7_fill_53178 : ByteArray := prog_14_method_103_code
def yJ7_fill_53178 : MethodName := ⟨RJ7, "fill", "([II)V"⟩
abbrev cJ7_fill_fda19 : ByteArray := prog_14_method_104_code
def yJ7_fill_fda19 : MethodName := ⟨RJ7, "fill", "([IIII)V"⟩
abbrev cJ7_fill_031fb : ByteArray := prog_14_method_109_code
def yJ7_fill_031fb : MethodName := ⟨RJ7, "fill", "([BB)V"⟩
def RL : String := "RankBoardLaw"
abbrev cL_law : ByteArray := code
def yL_law : MethodName := ⟨RL, "law", "([I)Z"⟩
abbrev vwCl : List vw_C := [(RX0, TX0, 4), (RX1, TX1, 5), (RX2, TX2, 2), (RX3, TX3, 13), (RX4, TX4, 3), (RX5, TX5, 4), (RX6, TX6, 12), (RX7, TX7, 11), (RX8, TX8, 8), (RX9, TX9, 52)]
end
section
/-- the words that every contract takes: all of the tables that are good for calls -/
def tA : List Cond := lw_tbl.filter goodWord
theorem tg {w : Cond} (h : w ∈ lw_tbl) (g : goodWord w = true) : w ∈ tA := List.mem_filter.mpr ⟨h, g⟩
theorem tA_in {w : Cond} (h : w ∈ tA) : w ∈ lw_tbl := (List.mem_filter.mp h).1
theorem tA_gd {w : Cond} (h : w ∈ tA) : goodWord w = true := (List.mem_filter.mp h).2
theorem lt_1 {w : Cond} (h : w ∈ tables_1_1) : w ∈ lw_tbl := List.mem_append_right _ (List.mem_append_left _ h)
theorem lt_2 {w : Cond} (h : w ∈ tables_1_2) : w ∈ lw_tbl := List.mem_append_right _ (List.mem_append_right _ (List.mem_append_left _ h))
theorem lt_3 {w : Cond} (h : w ∈ tables_1_3) : w ∈ lw_tbl := List.mem_append_right _ (List.mem_append_right _ (List.mem_append_right _ (List.mem_append_left _ h)))
theorem lt_4 {w : Cond} (h : w ∈ tables_1_4) : w ∈ lw_tbl := List.mem_append_right _ (List.mem_append_right _ (List.mem_append_right _ (List.mem_append_right _ (List.mem_append_left _ h))))
theorem lt_5 {w : Cond} (h : w ∈ tables_1_5) : w ∈ lw_tbl := List.mem_append_right _ (List.mem_append_right _ (List.mem_append_right _ (List.mem_append_right _ (List.mem_append_right _ (h)))))
theorem in_L : Cond.initialized RL ∈ tA := tg (lt_1 (List.mem_of_getElem? (i := 0) rfl)) rfl
theorem in_X8 : Cond.initialized RX8 ∈ tA := tg (lt_1 (List.mem_of_getElem? (i := 1) rfl)) rfl
theorem in_X2 : Cond.initialized RX2 ∈ tA := tg (lt_1 (List.mem_of_getElem? (i := 2) rfl)) rfl
theorem in_X3 : Cond.initialized RX3 ∈ tA := tg (lt_1 (List.mem_of_getElem? (i := 3) rfl)) rfl
theorem in_X4 : Cond.initialized RX4 ∈ tA := tg (lt_1 (List.mem_of_getElem? (i := 4) rfl)) rfl
theorem in_J7 : Cond.initialized RJ7 ∈ tA := tg (lt_1 (List.mem_of_getElem? (i := 5) rfl)) rfl
theorem in_X6 : Cond.initialized RX6 ∈ tA := tg (lt_1 (List.mem_of_getElem? (i := 6) rfl)) rfl
theorem in_X1 : Cond.initialized RX1 ∈ tA := tg (lt_1 (List.mem_of_getElem? (i := 7) rfl)) rfl
theorem in_X0 : Cond.initialized RX0 ∈ tA := tg (lt_1 (List.mem_of_getElem? (i := 8) rfl)) rfl
theorem in_X7 : Cond.initialized RX7 ∈ tA := tg (lt_1 (List.mem_of_getElem? (i := 9) rfl)) rfl
theorem in_X5 : Cond.initialized RX5 ∈ tA := tg (lt_1 (List.mem_of_getElem? (i := 10) rfl)) rfl
theorem in_X9 : Cond.initialized RX9 ∈ tA := tg (lt_1 (List.mem_of_getElem? (i := 11) rfl)) rfl
theorem in_J10 : Cond.initialized RJ10 ∈ tA := tg (lt_1 (List.mem_of_getElem? (i := 12) rfl)) rfl
theorem in_J9 : Cond.initialized RJ9 ∈ tA := tg (lt_1 (List.mem_of_getElem? (i := 13) rfl)) rfl
theorem cl_L_7 : Cond.classLink RL 7 RX8 ∈ tA := tg (lt_1 (List.mem_of_getElem? (i := 14) rfl)) rfl
theorem ib_X8 : Cond.instantiable RX8 8 ∈ tA := tg (lt_1 (List.mem_of_getElem? (i := 15) rfl)) rfl
theorem ml_L_9 : Cond.methodLink RL 9 yX8_init ∈ tA := tg (lt_1 (List.mem_of_getElem? (i := 16) rfl)) rfl
theorem im_X8_init : Cond.instanceMethod yX8_init ∈ tA := tg (lt_1 (List.mem_of_getElem? (i := 17) rfl)) rfl
theorem co_X8_init : Cond.code yX8_init cX8_init 1 none ∈ tA := tg (lt_1 (List.mem_of_getElem? (i := 18) rfl)) rfl
theorem ml_X8_3 : Cond.methodLink RX8 3 objectInit ∈ tA := tg (lt_1 (List.mem_of_getElem? (i := 19) rfl)) rfl
theorem im_obj : Cond.instanceMethod objectInit ∈ tA := tg (lt_1 (List.mem_of_getElem? (i := 20) rfl)) rfl
theorem co_obj : Cond.code objectInit ⟨#[0xb1]⟩ 1 none ∈ tA := tg (lt_1 (List.mem_of_getElem? (i := 21) rfl)) rfl
theorem cl_X8_9 : Cond.classLink RX8 9 RX2 ∈ tA := tg (lt_1 (List.mem_of_getElem? (i := 22) rfl)) rfl
theorem ib_X2 : Cond.instantiable RX2 2 ∈ tA := tg (lt_1 (List.mem_of_getElem? (i := 23) rfl)) rfl
theorem im_X2_init : Cond.instanceMethod yX2_init ∈ tA := tg (lt_1 (List.mem_of_getElem? (i := 25) rfl)) rfl
theorem co_X2_init : Cond.code yX2_init cX2_init 1 none ∈ tA := tg (lt_1 (List.mem_of_getElem? (i := 26) rfl)) rfl
theorem ml_X2_3 : Cond.methodLink RX2 3 objectInit ∈ tA := tg (lt_1 (List.mem_of_getElem? (i := 27) rfl)) rfl
theorem fl_X2_9 : Cond.fieldLink RX2 9 "RankBoard$Log" "times" "[I" ∈ tA := tg (lt_1 (List.mem_of_getElem? (i := 28) rfl)) rfl
theorem fl_X8_325 : Cond.fieldLink RX8 325 "RankBoard$Log" "times" "[I" ∈ tA := tg (lt_1 (List.mem_of_getElem? (i := 29) rfl)) rfl
theorem fl_X2_15 : Cond.fieldLink RX2 15 "RankBoard$Log" "latest" "I" ∈ tA := tg (lt_1 (List.mem_of_getElem? (i := 30) rfl)) rfl
theorem fl_X8_322 : Cond.fieldLink RX8 322 "RankBoard$Log" "latest" "I" ∈ tA := tg (lt_1 (List.mem_of_getElem? (i := 31) rfl)) rfl
theorem ac_Jvm_ClassFile_FieldType_int : (Jvm.Cond.arrayClass Jvm.ClassFile.FieldType.int) ∈ tA := tg (lt_1 (List.mem_of_getElem? (i := 37) rfl)) rfl
theorem cl_X8_16 : Cond.classLink RX8 16 RX3 ∈ tA := tg (lt_1 (List.mem_of_getElem? (i := 38) rfl)) rfl
theorem ib_X3 : Cond.instantiable RX3 13 ∈ tA := tg (lt_1 (List.mem_of_getElem? (i := 39) rfl)) rfl
theorem im_X3_init : Cond.instanceMethod yX3_init ∈ tA := tg (lt_1 (List.mem_of_getElem? (i := 41) rfl)) rfl
theorem co_X3_init : Cond.code yX3_init cX3_init 1 none ∈ tA := tg (lt_1 (List.mem_of_getElem? (i := 42) rfl)) rfl
theorem ml_X3_3 : Cond.methodLink RX3 3 objectInit ∈ tA := tg (lt_1 (List.mem_of_getElem? (i := 43) rfl)) rfl
theorem fl_X3_9 : Cond.fieldLink RX3 9 "RankBoard$Roster" "kind" "[I" ∈ tA := tg (lt_1 (List.mem_of_getElem? (i := 44) rfl)) rfl
theorem fl_X8_282 : Cond.fieldLink RX8 282 "RankBoard$Roster" "kind" "[I" ∈ tA := tg (lt_1 (List.mem_of_getElem? (i := 45) rfl)) rfl
theorem fl_X3_15 : Cond.fieldLink RX3 15 "RankBoard$Roster" "stable" "[I" ∈ tA := tg (lt_1 (List.mem_of_getElem? (i := 46) rfl)) rfl
theorem fl_X8_122 : Cond.fieldLink RX8 122 "RankBoard$Roster" "stable" "[I" ∈ tA := tg (lt_1 (List.mem_of_getElem? (i := 47) rfl)) rfl
theorem fl_X3_18 : Cond.fieldLink RX3 18 "RankBoard$Roster" "kin" "[I" ∈ tA := tg (lt_1 (List.mem_of_getElem? (i := 48) rfl)) rfl
theorem fl_X8_342 : Cond.fieldLink RX8 342 "RankBoard$Roster" "kin" "[I" ∈ tA := tg (lt_1 (List.mem_of_getElem? (i := 49) rfl)) rfl
theorem fl_X3_21 : Cond.fieldLink RX3 21 "RankBoard$Roster" "rungOf" "[I" ∈ tA := tg (lt_1 (List.mem_of_getElem? (i := 50) rfl)) rfl
theorem fl_X8_365 : Cond.fieldLink RX8 365 "RankBoard$Roster" "rungOf" "[I" ∈ tA := tg (lt_1 (List.mem_of_getElem? (i := 51) rfl)) rfl
theorem fl_X3_24 : Cond.fieldLink RX3 24 "RankBoard$Roster" "wins" "[I" ∈ tA := tg (lt_1 (List.mem_of_getElem? (i := 52) rfl)) rfl
theorem fl_X8_125 : Cond.fieldLink RX8 125 "RankBoard$Roster" "wins" "[I" ∈ tA := tg (lt_1 (List.mem_of_getElem? (i := 53) rfl)) rfl
theorem fl_X3_27 : Cond.fieldLink RX3 27 "RankBoard$Roster" "losses" "[I" ∈ tA := tg (lt_1 (List.mem_of_getElem? (i := 54) rfl)) rfl
theorem fl_X8_216 : Cond.fieldLink RX8 216 "RankBoard$Roster" "losses" "[I" ∈ tA := tg (lt_1 (List.mem_of_getElem? (i := 55) rfl)) rfl
theorem fl_X3_30 : Cond.fieldLink RX3 30 "RankBoard$Roster" "titles" "[I" ∈ tA := tg (lt_1 (List.mem_of_getElem? (i := 56) rfl)) rfl
theorem fl_X8_374 : Cond.fieldLink RX8 374 "RankBoard$Roster" "titles" "[I" ∈ tA := tg (lt_1 (List.mem_of_getElem? (i := 57) rfl)) rfl
theorem fl_X3_33 : Cond.fieldLink RX3 33 "RankBoard$Roster" "marks" "[I" ∈ tA := tg (lt_1 (List.mem_of_getElem? (i := 58) rfl)) rfl
theorem fl_X8_119 : Cond.fieldLink RX8 119 "RankBoard$Roster" "marks" "[I" ∈ tA := tg (lt_1 (List.mem_of_getElem? (i := 59) rfl)) rfl
theorem fl_X3_36 : Cond.fieldLink RX3 36 "RankBoard$Roster" "gone" "[Z" ∈ tA := tg (lt_1 (List.mem_of_getElem? (i := 60) rfl)) rfl
theorem fl_X8_90 : Cond.fieldLink RX8 90 "RankBoard$Roster" "gone" "[Z" ∈ tA := tg (lt_1 (List.mem_of_getElem? (i := 61) rfl)) rfl
theorem fl_X3_40 : Cond.fieldLink RX3 40 "RankBoard$Roster" "away" "[Z" ∈ tA := tg (lt_1 (List.mem_of_getElem? (i := 62) rfl)) rfl
theorem fl_X8_175 : Cond.fieldLink RX8 175 "RankBoard$Roster" "away" "[Z" ∈ tA := tg (lt_1 (List.mem_of_getElem? (i := 63) rfl)) rfl
theorem fl_X3_43 : Cond.fieldLink RX3 43 "RankBoard$Roster" "board" "[I" ∈ tA := tg (lt_1 (List.mem_of_getElem? (i := 64) rfl)) rfl
theorem fl_X7_49 : Cond.fieldLink RX7 49 "RankBoard$Roster" "board" "[I" ∈ tA := tg (lt_1 (List.mem_of_getElem? (i := 65) rfl)) rfl
theorem fl_X8_115 : Cond.fieldLink RX8 115 "RankBoard$Roster" "board" "[I" ∈ tA := tg (lt_1 (List.mem_of_getElem? (i := 66) rfl)) rfl
theorem fl_X3_46 : Cond.fieldLink RX3 46 "RankBoard$Roster" "ever" "I" ∈ tA := tg (lt_1 (List.mem_of_getElem? (i := 67) rfl)) rfl
theorem fl_X8_72 : Cond.fieldLink RX8 72 "RankBoard$Roster" "ever" "I" ∈ tA := tg (lt_1 (List.mem_of_getElem? (i := 68) rfl)) rfl
theorem fl_X7_39 : Cond.fieldLink RX7 39 "RankBoard$Roster" "standing" "I" ∈ tA := tg (lt_1 (List.mem_of_getElem? (i := 69) rfl)) rfl
theorem fl_X3_50 : Cond.fieldLink RX3 50 "RankBoard$Roster" "standing" "I" ∈ tA := tg (lt_1 (List.mem_of_getElem? (i := 70) rfl)) rfl
theorem fl_X8_112 : Cond.fieldLink RX8 112 "RankBoard$Roster" "standing" "I" ∈ tA := tg (lt_1 (List.mem_of_getElem? (i := 71) rfl)) rfl
theorem ac_Jvm_ClassFile_FieldType_boolean : (Jvm.Cond.arrayClass Jvm.ClassFile.FieldType.boolean) ∈ tA := tg (lt_1 (List.mem_of_getElem? (i := 99) rfl)) rfl
theorem cl_X8_23 : Cond.classLink RX8 23 RX4 ∈ tA := tg (lt_1 (List.mem_of_getElem? (i := 100) rfl)) rfl
theorem ib_X4 : Cond.instantiable RX4 3 ∈ tA := tg (lt_1 (List.mem_of_getElem? (i := 101) rfl)) rfl
theorem ml_X8_25 : Cond.methodLink RX8 25 yX4_init ∈ tA := tg (lt_1 (List.mem_of_getElem? (i := 102) rfl)) rfl
theorem im_X4_init : Cond.instanceMethod yX4_init ∈ tA := tg (lt_1 (List.mem_of_getElem? (i := 103) rfl)) rfl
theorem co_X4_init : Cond.code yX4_init cX4_init 1 none ∈ tA := tg (lt_1 (List.mem_of_getElem? (i := 104) rfl)) rfl
theorem ml_X4_3 : Cond.methodLink RX4 3 objectInit ∈ tA := tg (lt_1 (List.mem_of_getElem? (i := 105) rfl)) rfl
theorem cl_X4_9 : Cond.classLink RX4 9 "[[B" ∈ tA := tg (lt_1 (List.mem_of_getElem? (i := 106) rfl)) rfl
theorem ml_X4_24 : Cond.methodLink RX4 24 yJ7_fill_53178 ∈ tA := tg (lt_1 (List.mem_of_getElem? (i := 108) rfl)) rfl
theorem st_J7_fill_53178 : Cond.static yJ7_fill_53178 ∈ tA := tg (lt_1 (List.mem_of_getElem? (i := 109) rfl)) rfl
theorem co_J7_fill_53178 : Cond.code yJ7_fill_53178 cJ7_fill_53178 4 none ∈ tA := tg (lt_1 (List.mem_of_getElem? (i := 110) rfl)) rfl
theorem fl_X4_11 : Cond.fieldLink RX4 11 "RankBoard$Sheets" "bytes" "[[B" ∈ tA := tg (lt_1 (List.mem_of_getElem? (i := 111) rfl)) rfl
theorem fl_X8_149 : Cond.fieldLink RX8 149 "RankBoard$Sheets" "bytes" "[[B" ∈ tA := tg (lt_1 (List.mem_of_getElem? (i := 112) rfl)) rfl
theorem fl_X4_16 : Cond.fieldLink RX4 16 "RankBoard$Sheets" "size" "[I" ∈ tA := tg (lt_1 (List.mem_of_getElem? (i := 113) rfl)) rfl
theorem fl_X8_138 : Cond.fieldLink RX8 138 "RankBoard$Sheets" "size" "[I" ∈ tA := tg (lt_1 (List.mem_of_getElem? (i := 114) rfl)) rfl
theorem fl_X4_20 : Cond.fieldLink RX4 20 "RankBoard$Sheets" "teller" "I" ∈ tA := tg (lt_1 (List.mem_of_getElem? (i := 115) rfl)) rfl
theorem fl_X8_159 : Cond.fieldLink RX8 159 "RankBoard$Sheets" "teller" "I" ∈ tA := tg (lt_1 (List.mem_of_getElem? (i := 116) rfl)) rfl
theorem ac_Jvm_ClassFile_FieldType_byte : (Jvm.Cond.arrayClass Jvm.ClassFile.FieldType.byte) ∈ tA := tg (lt_1 (List.mem_of_getElem? (i := 124) rfl)) rfl
theorem cl_X8_30 : Cond.classLink RX8 30 RX6 ∈ tA := tg (lt_1 (List.mem_of_getElem? (i := 125) rfl)) rfl
theorem ib_X6 : Cond.instantiable RX6 12 ∈ tA := tg (lt_1 (List.mem_of_getElem? (i := 126) rfl)) rfl
theorem im_X6_init : Cond.instanceMethod yX6_init ∈ tA := tg (lt_1 (List.mem_of_getElem? (i := 128) rfl)) rfl
theorem co_X6_init : Cond.code yX6_init cX6_init 1 none ∈ tA := tg (lt_1 (List.mem_of_getElem? (i := 129) rfl)) rfl
theorem ml_X6_3 : Cond.methodLink RX6 3 objectInit ∈ tA := tg (lt_1 (List.mem_of_getElem? (i := 130) rfl)) rfl
theorem fl_X6_9 : Cond.fieldLink RX6 9 "RankBoard$Tourney" "day" "[I" ∈ tA := tg (lt_1 (List.mem_of_getElem? (i := 131) rfl)) rfl
theorem fl_X6_15 : Cond.fieldLink RX6 15 "RankBoard$Tourney" "upper" "[I" ∈ tA := tg (lt_1 (List.mem_of_getElem? (i := 132) rfl)) rfl
theorem fl_X8_210 : Cond.fieldLink RX8 210 "RankBoard$Tourney" "upper" "[I" ∈ tA := tg (lt_1 (List.mem_of_getElem? (i := 133) rfl)) rfl
theorem fl_X6_18 : Cond.fieldLink RX6 18 "RankBoard$Tourney" "lower" "[I" ∈ tA := tg (lt_1 (List.mem_of_getElem? (i := 134) rfl)) rfl
theorem fl_X8_213 : Cond.fieldLink RX8 213 "RankBoard$Tourney" "lower" "[I" ∈ tA := tg (lt_1 (List.mem_of_getElem? (i := 135) rfl)) rfl
theorem fl_X6_21 : Cond.fieldLink RX6 21 "RankBoard$Tourney" "winner" "[I" ∈ tA := tg (lt_1 (List.mem_of_getElem? (i := 136) rfl)) rfl
theorem fl_X8_207 : Cond.fieldLink RX8 207 "RankBoard$Tourney" "winner" "[I" ∈ tA := tg (lt_1 (List.mem_of_getElem? (i := 137) rfl)) rfl
theorem fl_X6_24 : Cond.fieldLink RX6 24 "RankBoard$Tourney" "metBits" "[I" ∈ tA := tg (lt_1 (List.mem_of_getElem? (i := 138) rfl)) rfl
theorem fl_X6_27 : Cond.fieldLink RX6 27 "RankBoard$Tourney" "going" "Z" ∈ tA := tg (lt_1 (List.mem_of_getElem? (i := 139) rfl)) rfl
theorem fl_X8_76 : Cond.fieldLink RX8 76 "RankBoard$Tourney" "going" "Z" ∈ tA := tg (lt_1 (List.mem_of_getElem? (i := 140) rfl)) rfl
theorem fl_X6_31 : Cond.fieldLink RX6 31 "RankBoard$Tourney" "days" "I" ∈ tA := tg (lt_1 (List.mem_of_getElem? (i := 141) rfl)) rfl
theorem fl_X8_187 : Cond.fieldLink RX8 187 "RankBoard$Tourney" "days" "I" ∈ tA := tg (lt_1 (List.mem_of_getElem? (i := 142) rfl)) rfl
theorem fl_X6_35 : Cond.fieldLink RX6 35 "RankBoard$Tourney" "drawn" "I" ∈ tA := tg (lt_1 (List.mem_of_getElem? (i := 143) rfl)) rfl
theorem fl_X8_184 : Cond.fieldLink RX8 184 "RankBoard$Tourney" "drawn" "I" ∈ tA := tg (lt_1 (List.mem_of_getElem? (i := 144) rfl)) rfl
theorem fl_X6_38 : Cond.fieldLink RX6 38 "RankBoard$Tourney" "bouts" "I" ∈ tA := tg (lt_1 (List.mem_of_getElem? (i := 145) rfl)) rfl
theorem fl_X8_336 : Cond.fieldLink RX8 336 "RankBoard$Tourney" "bouts" "I" ∈ tA := tg (lt_1 (List.mem_of_getElem? (i := 146) rfl)) rfl
theorem fl_X6_41 : Cond.fieldLink RX6 41 "RankBoard$Tourney" "lacking" "I" ∈ tA := tg (lt_1 (List.mem_of_getElem? (i := 147) rfl)) rfl
theorem fl_X8_181 : Cond.fieldLink RX8 181 "RankBoard$Tourney" "lacking" "I" ∈ tA := tg (lt_1 (List.mem_of_getElem? (i := 148) rfl)) rfl
theorem fl_X8_200 : Cond.fieldLink RX8 200 "RankBoard$Tourney" "cost" "I" ∈ tA := tg (lt_1 (List.mem_of_getElem? (i := 149) rfl)) rfl
theorem fl_X8_223 : Cond.fieldLink RX8 223 "RankBoard$Tourney" "satOut" "I" ∈ tA := tg (lt_1 (List.mem_of_getElem? (i := 150) rfl)) rfl
theorem cl_X8_37 : Cond.classLink RX8 37 RX1 ∈ tA := tg (lt_1 (List.mem_of_getElem? (i := 176) rfl)) rfl
theorem ib_X1 : Cond.instantiable RX1 5 ∈ tA := tg (lt_1 (List.mem_of_getElem? (i := 177) rfl)) rfl
theorem im_X1_init : Cond.instanceMethod yX1_init ∈ tA := tg (lt_1 (List.mem_of_getElem? (i := 179) rfl)) rfl
theorem co_X1_init : Cond.code yX1_init cX1_init 1 none ∈ tA := tg (lt_1 (List.mem_of_getElem? (i := 180) rfl)) rfl
theorem ml_X1_3 : Cond.methodLink RX1 3 objectInit ∈ tA := tg (lt_1 (List.mem_of_getElem? (i := 181) rfl)) rfl
theorem cl_X1_18 : Cond.classLink RX1 18 "[[I" ∈ tA := tg (lt_1 (List.mem_of_getElem? (i := 182) rfl)) rfl
theorem fl_X1_9 : Cond.fieldLink RX1 9 "RankBoard$Fitting" "who" "[I" ∈ tA := tg (lt_1 (List.mem_of_getElem? (i := 184) rfl)) rfl
theorem fl_X8_350 : Cond.fieldLink RX8 350 "RankBoard$Fitting" "who" "[I" ∈ tA := tg (lt_1 (List.mem_of_getElem? (i := 185) rfl)) rfl
theorem fl_X1_15 : Cond.fieldLink RX1 15 "RankBoard$Fitting" "mate" "[I" ∈ tA := tg (lt_1 (List.mem_of_getElem? (i := 186) rfl)) rfl
theorem fl_X8_368 : Cond.fieldLink RX8 368 "RankBoard$Fitting" "mate" "[I" ∈ tA := tg (lt_1 (List.mem_of_getElem? (i := 187) rfl)) rfl
theorem fl_X1_20 : Cond.fieldLink RX1 20 "RankBoard$Fitting" "charge" "[[I" ∈ tA := tg (lt_1 (List.mem_of_getElem? (i := 188) rfl)) rfl
theorem fl_X8_353 : Cond.fieldLink RX8 353 "RankBoard$Fitting" "charge" "[[I" ∈ tA := tg (lt_1 (List.mem_of_getElem? (i := 189) rfl)) rfl
theorem fl_X1_23 : Cond.fieldLink RX1 23 "RankBoard$Fitting" "leastPlusOne" "[I" ∈ tA := tg (lt_1 (List.mem_of_getElem? (i := 190) rfl)) rfl
theorem fl_X1_26 : Cond.fieldLink RX1 26 "RankBoard$Fitting" "size" "I" ∈ tA := tg (lt_1 (List.mem_of_getElem? (i := 191) rfl)) rfl
theorem fl_X8_348 : Cond.fieldLink RX8 348 "RankBoard$Fitting" "size" "I" ∈ tA := tg (lt_1 (List.mem_of_getElem? (i := 192) rfl)) rfl
theorem cl_X8_44 : Cond.classLink RX8 44 RX0 ∈ tA := tg (lt_1 (List.mem_of_getElem? (i := 204) rfl)) rfl
theorem ib_X0 : Cond.instantiable RX0 4 ∈ tA := tg (lt_1 (List.mem_of_getElem? (i := 205) rfl)) rfl
theorem im_X0_init : Cond.instanceMethod yX0_init ∈ tA := tg (lt_1 (List.mem_of_getElem? (i := 207) rfl)) rfl
theorem co_X0_init : Cond.code yX0_init cX0_init 1 none ∈ tA := tg (lt_1 (List.mem_of_getElem? (i := 208) rfl)) rfl
theorem ml_X0_3 : Cond.methodLink RX0 3 objectInit ∈ tA := tg (lt_1 (List.mem_of_getElem? (i := 209) rfl)) rfl
theorem fl_X0_9 : Cond.fieldLink RX0 9 "RankBoard$Custom" "low" "[I" ∈ tA := tg (lt_1 (List.mem_of_getElem? (i := 210) rfl)) rfl
theorem fl_X0_15 : Cond.fieldLink RX0 15 "RankBoard$Custom" "high" "[I" ∈ tA := tg (lt_1 (List.mem_of_getElem? (i := 211) rfl)) rfl
theorem fl_X0_18 : Cond.fieldLink RX0 18 "RankBoard$Custom" "up" "[I" ∈ tA := tg (lt_1 (List.mem_of_getElem? (i := 212) rfl)) rfl
theorem fl_X0_21 : Cond.fieldLink RX0 21 "RankBoard$Custom" "lines" "I" ∈ tA := tg (lt_1 (List.mem_of_getElem? (i := 213) rfl)) rfl
theorem fl_X8_226 : Cond.fieldLink RX8 226 "RankBoard$Custom" "lines" "I" ∈ tA := tg (lt_1 (List.mem_of_getElem? (i := 214) rfl)) rfl
theorem cl_X8_51 : Cond.classLink RX8 51 RX7 ∈ tA := tg (lt_1 (List.mem_of_getElem? (i := 224) rfl)) rfl
theorem ib_X7 : Cond.instantiable RX7 11 ∈ tA := tg (lt_1 (List.mem_of_getElem? (i := 225) rfl)) rfl
theorem ml_X8_53 : Cond.methodLink RX8 53 yX7_init ∈ tA := tg (lt_1 (List.mem_of_getElem? (i := 226) rfl)) rfl
theorem im_X7_init : Cond.instanceMethod yX7_init ∈ tA := tg (lt_1 (List.mem_of_getElem? (i := 227) rfl)) rfl
theorem co_X7_init : Cond.code yX7_init cX7_init 1 none ∈ tA := tg (lt_1 (List.mem_of_getElem? (i := 228) rfl)) rfl
theorem ml_X7_3 : Cond.methodLink RX7 3 objectInit ∈ tA := tg (lt_1 (List.mem_of_getElem? (i := 229) rfl)) rfl
theorem ml_X7_33 : Cond.methodLink RX7 33 yJ7_fill_53178 ∈ tA := tg (lt_1 (List.mem_of_getElem? (i := 230) rfl)) rfl
theorem fl_X7_9 : Cond.fieldLink RX7 9 "RankBoard$Writing" "formerBoard" "[I" ∈ tA := tg (lt_1 (List.mem_of_getElem? (i := 231) rfl)) rfl
theorem fl_X8_242 : Cond.fieldLink RX8 242 "RankBoard$Writing" "formerBoard" "[I" ∈ tA := tg (lt_1 (List.mem_of_getElem? (i := 232) rfl)) rfl
theorem fl_X7_15 : Cond.fieldLink RX7 15 "RankBoard$Writing" "before" "[I" ∈ tA := tg (lt_1 (List.mem_of_getElem? (i := 233) rfl)) rfl
theorem fl_X8_260 : Cond.fieldLink RX8 260 "RankBoard$Writing" "before" "[I" ∈ tA := tg (lt_1 (List.mem_of_getElem? (i := 234) rfl)) rfl
theorem fl_X7_18 : Cond.fieldLink RX7 18 "RankBoard$Writing" "after" "[I" ∈ tA := tg (lt_1 (List.mem_of_getElem? (i := 235) rfl)) rfl
theorem fl_X8_254 : Cond.fieldLink RX8 254 "RankBoard$Writing" "after" "[I" ∈ tA := tg (lt_1 (List.mem_of_getElem? (i := 236) rfl)) rfl
theorem fl_X7_21 : Cond.fieldLink RX7 21 "RankBoard$Writing" "byLine" "[I" ∈ tA := tg (lt_1 (List.mem_of_getElem? (i := 237) rfl)) rfl
theorem fl_X8_267 : Cond.fieldLink RX8 267 "RankBoard$Writing" "byLine" "[I" ∈ tA := tg (lt_1 (List.mem_of_getElem? (i := 238) rfl)) rfl
theorem fl_X7_24 : Cond.fieldLink RX7 24 "RankBoard$Writing" "aside" "[I" ∈ tA := tg (lt_1 (List.mem_of_getElem? (i := 239) rfl)) rfl
theorem fl_X8_291 : Cond.fieldLink RX8 291 "RankBoard$Writing" "aside" "[I" ∈ tA := tg (lt_2 (List.mem_of_getElem? (i := 0) rfl)) rfl
theorem fl_X7_27 : Cond.fieldLink RX7 27 "RankBoard$Writing" "order" "[I" ∈ tA := tg (lt_2 (List.mem_of_getElem? (i := 1) rfl)) rfl
theorem fl_X8_251 : Cond.fieldLink RX8 251 "RankBoard$Writing" "order" "[I" ∈ tA := tg (lt_2 (List.mem_of_getElem? (i := 2) rfl)) rfl
theorem fl_X7_30 : Cond.fieldLink RX7 30 "RankBoard$Writing" "aims" "[I" ∈ tA := tg (lt_2 (List.mem_of_getElem? (i := 3) rfl)) rfl
theorem fl_X7_45 : Cond.fieldLink RX7 45 "RankBoard$Writing" "standing" "I" ∈ tA := tg (lt_2 (List.mem_of_getElem? (i := 4) rfl)) rfl
theorem fl_X8_241 : Cond.fieldLink RX8 241 "RankBoard$Writing" "standing" "I" ∈ tA := tg (lt_2 (List.mem_of_getElem? (i := 5) rfl)) rfl
theorem fl_X7_46 : Cond.fieldLink RX7 46 "RankBoard$Writing" "linesThen" "I" ∈ tA := tg (lt_2 (List.mem_of_getElem? (i := 6) rfl)) rfl
theorem fl_X8_276 : Cond.fieldLink RX8 276 "RankBoard$Writing" "linesThen" "I" ∈ tA := tg (lt_2 (List.mem_of_getElem? (i := 7) rfl)) rfl
theorem fl_X7_52 : Cond.fieldLink RX7 52 "RankBoard$Writing" "times" "I" ∈ tA := tg (lt_2 (List.mem_of_getElem? (i := 8) rfl)) rfl
theorem fl_X8_377 : Cond.fieldLink RX8 377 "RankBoard$Writing" "times" "I" ∈ tA := tg (lt_2 (List.mem_of_getElem? (i := 9) rfl)) rfl
theorem fl_X8_80 : Cond.fieldLink RX8 80 "RankBoard$Writing" "fresh" "Z" ∈ tA := tg (lt_2 (List.mem_of_getElem? (i := 10) rfl)) rfl
theorem fl_X7_55 : Cond.fieldLink RX7 55 "RankBoard$Writing" "fresh" "Z" ∈ tA := tg (lt_2 (List.mem_of_getElem? (i := 11) rfl)) rfl
theorem cl_X8_58 : Cond.classLink RX8 58 RX5 ∈ tA := tg (lt_2 (List.mem_of_getElem? (i := 35) rfl)) rfl
theorem ib_X5 : Cond.instantiable RX5 4 ∈ tA := tg (lt_2 (List.mem_of_getElem? (i := 36) rfl)) rfl
theorem im_X5_init : Cond.instanceMethod yX5_init ∈ tA := tg (lt_2 (List.mem_of_getElem? (i := 38) rfl)) rfl
theorem co_X5_init : Cond.code yX5_init cX5_init 1 none ∈ tA := tg (lt_2 (List.mem_of_getElem? (i := 39) rfl)) rfl
theorem ml_X5_3 : Cond.methodLink RX5 3 objectInit ∈ tA := tg (lt_2 (List.mem_of_getElem? (i := 40) rfl)) rfl
theorem fl_X5_9 : Cond.fieldLink RX5 9 "RankBoard$TitleRow" "row" "[I" ∈ tA := tg (lt_2 (List.mem_of_getElem? (i := 41) rfl)) rfl
theorem fl_X8_309 : Cond.fieldLink RX8 309 "RankBoard$TitleRow" "row" "[I" ∈ tA := tg (lt_2 (List.mem_of_getElem? (i := 42) rfl)) rfl
theorem fl_X5_19 : Cond.fieldLink RX5 19 "RankBoard$TitleRow" "left" "I" ∈ tA := tg (lt_2 (List.mem_of_getElem? (i := 43) rfl)) rfl
theorem fl_X8_306 : Cond.fieldLink RX8 306 "RankBoard$TitleRow" "left" "I" ∈ tA := tg (lt_2 (List.mem_of_getElem? (i := 44) rfl)) rfl
theorem fl_X5_22 : Cond.fieldLink RX5 22 "RankBoard$TitleRow" "begun" "Z" ∈ tA := tg (lt_2 (List.mem_of_getElem? (i := 45) rfl)) rfl
theorem fl_X8_297 : Cond.fieldLink RX8 297 "RankBoard$TitleRow" "begun" "Z" ∈ tA := tg (lt_2 (List.mem_of_getElem? (i := 46) rfl)) rfl
theorem fl_X5_15 : Cond.fieldLink RX5 15 "RankBoard$TitleRow" "holder" "I" ∈ tA := tg (lt_2 (List.mem_of_getElem? (i := 47) rfl)) rfl
theorem fl_X8_316 : Cond.fieldLink RX8 316 "RankBoard$TitleRow" "holder" "I" ∈ tA := tg (lt_2 (List.mem_of_getElem? (i := 48) rfl)) rfl
theorem fl_X8_12 : Cond.fieldLink RX8 12 "RankBoard" "log" "LRankBoard$Log;" ∈ tA := tg (lt_2 (List.mem_of_getElem? (i := 58) rfl)) rfl
theorem fl_X8_19 : Cond.fieldLink RX8 19 "RankBoard" "roster" "LRankBoard$Roster;" ∈ tA := tg (lt_2 (List.mem_of_getElem? (i := 59) rfl)) rfl
theorem fl_X8_26 : Cond.fieldLink RX8 26 "RankBoard" "sheets" "LRankBoard$Sheets;" ∈ tA := tg (lt_2 (List.mem_of_getElem? (i := 60) rfl)) rfl
theorem fl_X8_33 : Cond.fieldLink RX8 33 "RankBoard" "tourney" "LRankBoard$Tourney;" ∈ tA := tg (lt_2 (List.mem_of_getElem? (i := 61) rfl)) rfl
theorem fl_X8_40 : Cond.fieldLink RX8 40 "RankBoard" "fitting" "LRankBoard$Fitting;" ∈ tA := tg (lt_2 (List.mem_of_getElem? (i := 62) rfl)) rfl
theorem fl_X8_47 : Cond.fieldLink RX8 47 "RankBoard" "custom" "LRankBoard$Custom;" ∈ tA := tg (lt_2 (List.mem_of_getElem? (i := 63) rfl)) rfl
theorem fl_X8_54 : Cond.fieldLink RX8 54 "RankBoard" "writing" "LRankBoard$Writing;" ∈ tA := tg (lt_2 (List.mem_of_getElem? (i := 64) rfl)) rfl
theorem fl_X8_61 : Cond.fieldLink RX8 61 "RankBoard" "titleRow" "LRankBoard$TitleRow;" ∈ tA := tg (lt_2 (List.mem_of_getElem? (i := 65) rfl)) rfl
theorem ml_L_13 : Cond.methodLink RL 13 yX8_wrestler ∈ tA := tg (lt_2 (List.mem_of_getElem? (i := 83) rfl)) rfl
theorem im_X8_wrestler : Cond.instanceMethod yX8_wrestler ∈ tA := tg (lt_2 (List.mem_of_getElem? (i := 84) rfl)) rfl
theorem se_X8_wrestler : Cond.selects RX8 yX8_wrestler yX8_wrestler ∈ tA := tg (lt_2 (List.mem_of_getElem? (i := 85) rfl)) rfl
theorem co_X8_wrestler : Cond.code yX8_wrestler cX8_wrestler 4 (some .int) ∈ tA := tg (lt_2 (List.mem_of_getElem? (i := 86) rfl)) rfl
theorem ml_X8_65 : Cond.methodLink RX8 65 yX8_isKind ∈ tA := tg (lt_2 (List.mem_of_getElem? (i := 87) rfl)) rfl
theorem st_X8_isKind : Cond.static yX8_isKind ∈ tA := tg (lt_2 (List.mem_of_getElem? (i := 88) rfl)) rfl
theorem co_X8_isKind : Cond.code yX8_isKind cX8_isKind 1 (some .boolean) ∈ tA := tg (lt_2 (List.mem_of_getElem? (i := 89) rfl)) rfl
theorem ml_X8_69 : Cond.methodLink RX8 69 yX8_isGroup ∈ tA := tg (lt_2 (List.mem_of_getElem? (i := 90) rfl)) rfl
theorem st_X8_isGroup : Cond.static yX8_isGroup ∈ tA := tg (lt_2 (List.mem_of_getElem? (i := 91) rfl)) rfl
theorem co_X8_isGroup : Cond.code yX8_isGroup cX8_isGroup 1 (some .boolean) ∈ tA := tg (lt_2 (List.mem_of_getElem? (i := 92) rfl)) rfl
theorem ml_X8_83 : Cond.methodLink RX8 83 yX3_add ∈ tA := tg (lt_2 (List.mem_of_getElem? (i := 93) rfl)) rfl
theorem im_X3_add : Cond.instanceMethod yX3_add ∈ tA := tg (lt_2 (List.mem_of_getElem? (i := 94) rfl)) rfl
theorem se_X3_add : Cond.selects RX3 yX3_add yX3_add ∈ tA := tg (lt_2 (List.mem_of_getElem? (i := 95) rfl)) rfl
theorem co_X3_add : Cond.code yX3_add cX3_add 5 (some .int) ∈ tA := tg (lt_2 (List.mem_of_getElem? (i := 96) rfl)) rfl
theorem ml_X3_53 : Cond.methodLink RX3 53 yX3_place ∈ tA := tg (lt_2 (List.mem_of_getElem? (i := 97) rfl)) rfl
theorem im_X3_place : Cond.instanceMethod yX3_place ∈ tA := tg (lt_2 (List.mem_of_getElem? (i := 98) rfl)) rfl
theorem se_X3_place : Cond.selects RX3 yX3_place yX3_place ∈ tA := tg (lt_2 (List.mem_of_getElem? (i := 99) rfl)) rfl
theorem co_X3_place : Cond.code yX3_place cX3_place 3 none ∈ tA := tg (lt_2 (List.mem_of_getElem? (i := 100) rfl)) rfl
theorem ml_L_18 : Cond.methodLink RL 18 yX8_leave ∈ tA := tg (lt_2 (List.mem_of_getElem? (i := 101) rfl)) rfl
theorem im_X8_leave : Cond.instanceMethod yX8_leave ∈ tA := tg (lt_2 (List.mem_of_getElem? (i := 102) rfl)) rfl
theorem se_X8_leave : Cond.selects RX8 yX8_leave yX8_leave ∈ tA := tg (lt_2 (List.mem_of_getElem? (i := 103) rfl)) rfl
theorem co_X8_leave : Cond.code yX8_leave cX8_leave 2 (some .int) ∈ tA := tg (lt_2 (List.mem_of_getElem? (i := 104) rfl)) rfl
theorem ml_X8_87 : Cond.methodLink RX8 87 yX3_knows ∈ tA := tg (lt_2 (List.mem_of_getElem? (i := 105) rfl)) rfl
theorem im_X3_knows : Cond.instanceMethod yX3_knows ∈ tA := tg (lt_2 (List.mem_of_getElem? (i := 106) rfl)) rfl
theorem se_X3_knows : Cond.selects RX3 yX3_knows yX3_knows ∈ tA := tg (lt_2 (List.mem_of_getElem? (i := 107) rfl)) rfl
theorem co_X3_knows : Cond.code yX3_knows cX3_knows 2 (some .boolean) ∈ tA := tg (lt_2 (List.mem_of_getElem? (i := 108) rfl)) rfl
theorem ml_X8_94 : Cond.methodLink RX8 94 yX2_found ∈ tA := tg (lt_2 (List.mem_of_getElem? (i := 109) rfl)) rfl
theorem im_X2_found : Cond.instanceMethod yX2_found ∈ tA := tg (lt_2 (List.mem_of_getElem? (i := 110) rfl)) rfl
theorem se_X2_found : Cond.selects RX2 yX2_found yX2_found ∈ tA := tg (lt_2 (List.mem_of_getElem? (i := 111) rfl)) rfl
theorem co_X2_found : Cond.code yX2_found cX2_found 2 (some .int) ∈ tA := tg (lt_2 (List.mem_of_getElem? (i := 112) rfl)) rfl
theorem ml_X8_98 : Cond.methodLink RX8 98 yX3_remove ∈ tA := tg (lt_2 (List.mem_of_getElem? (i := 113) rfl)) rfl
theorem im_X3_remove : Cond.instanceMethod yX3_remove ∈ tA := tg (lt_2 (List.mem_of_getElem? (i := 114) rfl)) rfl
theorem se_X3_remove : Cond.selects RX3 yX3_remove yX3_remove ∈ tA := tg (lt_2 (List.mem_of_getElem? (i := 115) rfl)) rfl
theorem co_X3_remove : Cond.code yX3_remove cX3_remove 4 (some .int) ∈ tA := tg (lt_2 (List.mem_of_getElem? (i := 116) rfl)) rfl
theorem ml_L_23 : Cond.methodLink RL 23 yX8_told ∈ tA := tg (lt_2 (List.mem_of_getElem? (i := 117) rfl)) rfl
theorem im_X8_told : Cond.instanceMethod yX8_told ∈ tA := tg (lt_2 (List.mem_of_getElem? (i := 118) rfl)) rfl
theorem se_X8_told : Cond.selects RX8 yX8_told yX8_told ∈ tA := tg (lt_2 (List.mem_of_getElem? (i := 119) rfl)) rfl
theorem co_X8_told : Cond.code yX8_told cX8_told 4 (some .int) ∈ tA := tg (lt_2 (List.mem_of_getElem? (i := 120) rfl)) rfl
theorem ml_X8_101 : Cond.methodLink RX8 101 yX8_refusalOf ∈ tA := tg (lt_2 (List.mem_of_getElem? (i := 121) rfl)) rfl
theorem im_X8_refusalOf : Cond.instanceMethod yX8_refusalOf ∈ tA := tg (lt_2 (List.mem_of_getElem? (i := 123) rfl)) rfl
theorem co_X8_refusalOf : Cond.code yX8_refusalOf cX8_refusalOf 2 (some .int) ∈ tA := tg (lt_2 (List.mem_of_getElem? (i := 124) rfl)) rfl
theorem ml_X8_104 : Cond.methodLink RX8 104 yX3_fact ∈ tA := tg (lt_2 (List.mem_of_getElem? (i := 125) rfl)) rfl
theorem im_X3_fact : Cond.instanceMethod yX3_fact ∈ tA := tg (lt_2 (List.mem_of_getElem? (i := 126) rfl)) rfl
theorem se_X3_fact : Cond.selects RX3 yX3_fact yX3_fact ∈ tA := tg (lt_2 (List.mem_of_getElem? (i := 127) rfl)) rfl
theorem co_X3_fact : Cond.code yX3_fact cX3_fact 3 (some .int) ∈ tA := tg (lt_2 (List.mem_of_getElem? (i := 128) rfl)) rfl
theorem ml_L_28 : Cond.methodLink RL 28 yX8_is ∈ tA := tg (lt_2 (List.mem_of_getElem? (i := 129) rfl)) rfl
theorem im_X8_is : Cond.instanceMethod yX8_is ∈ tA := tg (lt_2 (List.mem_of_getElem? (i := 130) rfl)) rfl
theorem se_X8_is : Cond.selects RX8 yX8_is yX8_is ∈ tA := tg (lt_2 (List.mem_of_getElem? (i := 131) rfl)) rfl
theorem co_X8_is : Cond.code yX8_is cX8_is 4 (some .int) ∈ tA := tg (lt_2 (List.mem_of_getElem? (i := 132) rfl)) rfl
theorem ml_X8_108 : Cond.methodLink RX8 108 yX3_isOf ∈ tA := tg (lt_2 (List.mem_of_getElem? (i := 133) rfl)) rfl
theorem im_X3_isOf : Cond.instanceMethod yX3_isOf ∈ tA := tg (lt_2 (List.mem_of_getElem? (i := 134) rfl)) rfl
theorem se_X3_isOf : Cond.selects RX3 yX3_isOf yX3_isOf ∈ tA := tg (lt_2 (List.mem_of_getElem? (i := 135) rfl)) rfl
theorem co_X3_isOf : Cond.code yX3_isOf cX3_isOf 3 (some .boolean) ∈ tA := tg (lt_2 (List.mem_of_getElem? (i := 136) rfl)) rfl
theorem ml_L_32 : Cond.methodLink RL 32 yX8_on ∈ tA := tg (lt_2 (List.mem_of_getElem? (i := 137) rfl)) rfl
theorem im_X8_on : Cond.instanceMethod yX8_on ∈ tA := tg (lt_2 (List.mem_of_getElem? (i := 138) rfl)) rfl
theorem se_X8_on : Cond.selects RX8 yX8_on yX8_on ∈ tA := tg (lt_2 (List.mem_of_getElem? (i := 139) rfl)) rfl
theorem co_X8_on : Cond.code yX8_on cX8_on 2 (some .int) ∈ tA := tg (lt_2 (List.mem_of_getElem? (i := 140) rfl)) rfl
theorem ml_L_36 : Cond.methodLink RL 36 yX8_mark ∈ tA := tg (lt_2 (List.mem_of_getElem? (i := 141) rfl)) rfl
theorem im_X8_mark : Cond.instanceMethod yX8_mark ∈ tA := tg (lt_2 (List.mem_of_getElem? (i := 142) rfl)) rfl
theorem se_X8_mark : Cond.selects RX8 yX8_mark yX8_mark ∈ tA := tg (lt_2 (List.mem_of_getElem? (i := 143) rfl)) rfl
theorem co_X8_mark : Cond.code yX8_mark cX8_mark 4 (some .int) ∈ tA := tg (lt_2 (List.mem_of_getElem? (i := 144) rfl)) rfl
theorem ml_L_40 : Cond.methodLink RL 40 yX8_mean ∈ tA := tg (lt_2 (List.mem_of_getElem? (i := 145) rfl)) rfl
theorem im_X8_mean : Cond.instanceMethod yX8_mean ∈ tA := tg (lt_2 (List.mem_of_getElem? (i := 146) rfl)) rfl
theorem se_X8_mean : Cond.selects RX8 yX8_mean yX8_mean ∈ tA := tg (lt_2 (List.mem_of_getElem? (i := 147) rfl)) rfl
theorem co_X8_mean : Cond.code yX8_mean cX8_mean 6 (some .int) ∈ tA := tg (lt_2 (List.mem_of_getElem? (i := 148) rfl)) rfl
theorem ml_L_44 : Cond.methodLink RL 44 yX8_sheet ∈ tA := tg (lt_2 (List.mem_of_getElem? (i := 149) rfl)) rfl
theorem im_X8_sheet : Cond.instanceMethod yX8_sheet ∈ tA := tg (lt_2 (List.mem_of_getElem? (i := 150) rfl)) rfl
theorem se_X8_sheet : Cond.selects RX8 yX8_sheet yX8_sheet ∈ tA := tg (lt_2 (List.mem_of_getElem? (i := 151) rfl)) rfl
theorem co_X8_sheet : Cond.code yX8_sheet cX8_sheet 3 (some .int) ∈ tA := tg (lt_2 (List.mem_of_getElem? (i := 152) rfl)) rfl
theorem ml_X8_128 : Cond.methodLink RX8 128 yX8_isSheet ∈ tA := tg (lt_2 (List.mem_of_getElem? (i := 153) rfl)) rfl
theorem st_X8_isSheet : Cond.static yX8_isSheet ∈ tA := tg (lt_2 (List.mem_of_getElem? (i := 154) rfl)) rfl
theorem co_X8_isSheet : Cond.code yX8_isSheet cX8_isSheet 1 (some .boolean) ∈ tA := tg (lt_2 (List.mem_of_getElem? (i := 155) rfl)) rfl
theorem ml_X8_131 : Cond.methodLink RX8 131 yX4_blank ∈ tA := tg (lt_2 (List.mem_of_getElem? (i := 156) rfl)) rfl
theorem im_X4_blank : Cond.instanceMethod yX4_blank ∈ tA := tg (lt_2 (List.mem_of_getElem? (i := 157) rfl)) rfl
theorem se_X4_blank : Cond.selects RX4 yX4_blank yX4_blank ∈ tA := tg (lt_2 (List.mem_of_getElem? (i := 158) rfl)) rfl
theorem co_X4_blank : Cond.code yX4_blank cX4_blank 3 none ∈ tA := tg (lt_2 (List.mem_of_getElem? (i := 159) rfl)) rfl
theorem ml_X4_30 : Cond.methodLink RX4 30 yJ7_fill_031fb ∈ tA := tg (lt_2 (List.mem_of_getElem? (i := 160) rfl)) rfl
theorem st_J7_fill_031fb : Cond.static yJ7_fill_031fb ∈ tA := tg (lt_2 (List.mem_of_getElem? (i := 161) rfl)) rfl
theorem co_J7_fill_031fb : Cond.code yJ7_fill_031fb cJ7_fill_031fb 4 none ∈ tA := tg (lt_2 (List.mem_of_getElem? (i := 162) rfl)) rfl
theorem ml_L_48 : Cond.methodLink RL 48 yX8_lay ∈ tA := tg (lt_2 (List.mem_of_getElem? (i := 163) rfl)) rfl
theorem im_X8_lay : Cond.instanceMethod yX8_lay ∈ tA := tg (lt_2 (List.mem_of_getElem? (i := 164) rfl)) rfl
theorem se_X8_lay : Cond.selects RX8 yX8_lay yX8_lay ∈ tA := tg (lt_2 (List.mem_of_getElem? (i := 165) rfl)) rfl
theorem co_X8_lay : Cond.code yX8_lay cX8_lay 4 (some .int) ∈ tA := tg (lt_2 (List.mem_of_getElem? (i := 166) rfl)) rfl
theorem ml_X8_135 : Cond.methodLink RX8 135 yX4_isMissing ∈ tA := tg (lt_2 (List.mem_of_getElem? (i := 167) rfl)) rfl
theorem im_X4_isMissing : Cond.instanceMethod yX4_isMissing ∈ tA := tg (lt_2 (List.mem_of_getElem? (i := 168) rfl)) rfl
theorem se_X4_isMissing : Cond.selects RX4 yX4_isMissing yX4_isMissing ∈ tA := tg (lt_2 (List.mem_of_getElem? (i := 169) rfl)) rfl
theorem co_X4_isMissing : Cond.code yX4_isMissing cX4_isMissing 2 (some .boolean) ∈ tA := tg (lt_2 (List.mem_of_getElem? (i := 170) rfl)) rfl
theorem ml_X8_141 : Cond.methodLink RX8 141 yX4_replace ∈ tA := tg (lt_2 (List.mem_of_getElem? (i := 171) rfl)) rfl
theorem im_X4_replace : Cond.instanceMethod yX4_replace ∈ tA := tg (lt_2 (List.mem_of_getElem? (i := 172) rfl)) rfl
theorem se_X4_replace : Cond.selects RX4 yX4_replace yX4_replace ∈ tA := tg (lt_2 (List.mem_of_getElem? (i := 173) rfl)) rfl
theorem co_X4_replace : Cond.code yX4_replace cX4_replace 5 (some .int) ∈ tA := tg (lt_2 (List.mem_of_getElem? (i := 174) rfl)) rfl
theorem ml_L_52 : Cond.methodLink RL 52 yX8_tear ∈ tA := tg (lt_2 (List.mem_of_getElem? (i := 175) rfl)) rfl
theorem im_X8_tear : Cond.instanceMethod yX8_tear ∈ tA := tg (lt_2 (List.mem_of_getElem? (i := 176) rfl)) rfl
theorem se_X8_tear : Cond.selects RX8 yX8_tear yX8_tear ∈ tA := tg (lt_2 (List.mem_of_getElem? (i := 177) rfl)) rfl
theorem co_X8_tear : Cond.code yX8_tear cX8_tear 2 (some .int) ∈ tA := tg (lt_2 (List.mem_of_getElem? (i := 178) rfl)) rfl
theorem ml_L_56 : Cond.methodLink RL 56 yX8_copy ∈ tA := tg (lt_2 (List.mem_of_getElem? (i := 179) rfl)) rfl
theorem im_X8_copy : Cond.instanceMethod yX8_copy ∈ tA := tg (lt_2 (List.mem_of_getElem? (i := 180) rfl)) rfl
theorem se_X8_copy : Cond.selects RX8 yX8_copy yX8_copy ∈ tA := tg (lt_2 (List.mem_of_getElem? (i := 181) rfl)) rfl
theorem co_X8_copy : Cond.code yX8_copy cX8_copy 6 (some .int) ∈ tA := tg (lt_2 (List.mem_of_getElem? (i := 182) rfl)) rfl
theorem ml_X8_145 : Cond.methodLink RX8 145 yX4_holds ∈ tA := tg (lt_2 (List.mem_of_getElem? (i := 183) rfl)) rfl
theorem im_X4_holds : Cond.instanceMethod yX4_holds ∈ tA := tg (lt_2 (List.mem_of_getElem? (i := 184) rfl)) rfl
theorem se_X4_holds : Cond.selects RX4 yX4_holds yX4_holds ∈ tA := tg (lt_2 (List.mem_of_getElem? (i := 185) rfl)) rfl
theorem co_X4_holds : Cond.code yX4_holds cX4_holds 4 (some .boolean) ∈ tA := tg (lt_2 (List.mem_of_getElem? (i := 186) rfl)) rfl
theorem ml_X8_153 : Cond.methodLink RX8 153 arraycopyName ∈ tA := tg (lt_2 (List.mem_of_getElem? (i := 187) rfl)) rfl
theorem st_acopy : Cond.static arraycopyName ∈ tA := tg (lt_2 (List.mem_of_getElem? (i := 188) rfl)) rfl
theorem na_acopy : Cond.native arraycopyName ∈ tA := tg (lt_2 (List.mem_of_getElem? (i := 189) rfl)) rfl
theorem ml_L_61 : Cond.methodLink RL 61 yX8_prices ∈ tA := tg (lt_2 (List.mem_of_getElem? (i := 190) rfl)) rfl
theorem im_X8_prices : Cond.instanceMethod yX8_prices ∈ tA := tg (lt_2 (List.mem_of_getElem? (i := 191) rfl)) rfl
theorem se_X8_prices : Cond.selects RX8 yX8_prices yX8_prices ∈ tA := tg (lt_2 (List.mem_of_getElem? (i := 192) rfl)) rfl
theorem co_X8_prices : Cond.code yX8_prices cX8_prices 3 (some .int) ∈ tA := tg (lt_2 (List.mem_of_getElem? (i := 193) rfl)) rfl
theorem ml_L_65 : Cond.methodLink RL 65 yX8_price ∈ tA := tg (lt_2 (List.mem_of_getElem? (i := 194) rfl)) rfl
theorem im_X8_price : Cond.instanceMethod yX8_price ∈ tA := tg (lt_2 (List.mem_of_getElem? (i := 195) rfl)) rfl
theorem se_X8_price : Cond.selects RX8 yX8_price yX8_price ∈ tA := tg (lt_2 (List.mem_of_getElem? (i := 196) rfl)) rfl
theorem co_X8_price : Cond.code yX8_price cX8_price 2 (some .int) ∈ tA := tg (lt_2 (List.mem_of_getElem? (i := 197) rfl)) rfl
theorem ml_X8_162 : Cond.methodLink RX8 162 yX4_priceOf ∈ tA := tg (lt_2 (List.mem_of_getElem? (i := 198) rfl)) rfl
theorem im_X4_priceOf : Cond.instanceMethod yX4_priceOf ∈ tA := tg (lt_2 (List.mem_of_getElem? (i := 199) rfl)) rfl
theorem se_X4_priceOf : Cond.selects RX4 yX4_priceOf yX4_priceOf ∈ tA := tg (lt_2 (List.mem_of_getElem? (i := 200) rfl)) rfl
theorem co_X4_priceOf : Cond.code yX4_priceOf cX4_priceOf 2 (some .int) ∈ tA := tg (lt_2 (List.mem_of_getElem? (i := 201) rfl)) rfl
theorem ml_X4_33 : Cond.methodLink RX4 33 yX4_isMissing ∈ tA := tg (lt_2 (List.mem_of_getElem? (i := 202) rfl)) rfl
theorem ml_X4_37 : Cond.methodLink RX4 37 Lib.Math.min.name ∈ tA := tg (lt_2 (List.mem_of_getElem? (i := 203) rfl)) rfl
theorem st_min : Cond.static Lib.Math.min.name ∈ tA := tg (lt_2 (List.mem_of_getElem? (i := 204) rfl)) rfl
theorem co_min : Cond.code Lib.Math.min.name Lib.Math.min.code 2 (some .int) ∈ tA := tg (lt_2 (List.mem_of_getElem? (i := 205) rfl)) rfl
theorem ml_X4_43 : Cond.methodLink RX4 43 Lib.Math.max.name ∈ tA := tg (lt_2 (List.mem_of_getElem? (i := 206) rfl)) rfl
theorem st_max : Cond.static Lib.Math.max.name ∈ tA := tg (lt_2 (List.mem_of_getElem? (i := 207) rfl)) rfl
theorem co_max : Cond.code Lib.Math.max.name Lib.Math.max.code 2 (some .int) ∈ tA := tg (lt_2 (List.mem_of_getElem? (i := 208) rfl)) rfl
theorem ml_L_69 : Cond.methodLink RL 69 yX8_meet ∈ tA := tg (lt_2 (List.mem_of_getElem? (i := 209) rfl)) rfl
theorem im_X8_meet : Cond.instanceMethod yX8_meet ∈ tA := tg (lt_2 (List.mem_of_getElem? (i := 210) rfl)) rfl
theorem se_X8_meet : Cond.selects RX8 yX8_meet yX8_meet ∈ tA := tg (lt_2 (List.mem_of_getElem? (i := 211) rfl)) rfl
theorem co_X8_meet : Cond.code yX8_meet cX8_meet 2 (some .int) ∈ tA := tg (lt_2 (List.mem_of_getElem? (i := 212) rfl)) rfl
theorem ml_X8_165 : Cond.methodLink RX8 165 yX6_begin ∈ tA := tg (lt_2 (List.mem_of_getElem? (i := 213) rfl)) rfl
theorem im_X6_begin : Cond.instanceMethod yX6_begin ∈ tA := tg (lt_2 (List.mem_of_getElem? (i := 214) rfl)) rfl
theorem se_X6_begin : Cond.selects RX6 yX6_begin yX6_begin ∈ tA := tg (lt_2 (List.mem_of_getElem? (i := 215) rfl)) rfl
theorem co_X6_begin : Cond.code yX6_begin cX6_begin 2 none ∈ tA := tg (lt_2 (List.mem_of_getElem? (i := 216) rfl)) rfl
theorem ml_X6_44 : Cond.methodLink RX6 44 yJ7_fill_53178 ∈ tA := tg (lt_2 (List.mem_of_getElem? (i := 217) rfl)) rfl
theorem ml_X8_169 : Cond.methodLink RX8 169 yX3_clearScores ∈ tA := tg (lt_2 (List.mem_of_getElem? (i := 218) rfl)) rfl
theorem im_X3_clearScores : Cond.instanceMethod yX3_clearScores ∈ tA := tg (lt_2 (List.mem_of_getElem? (i := 219) rfl)) rfl
theorem se_X3_clearScores : Cond.selects RX3 yX3_clearScores yX3_clearScores ∈ tA := tg (lt_2 (List.mem_of_getElem? (i := 220) rfl)) rfl
theorem co_X3_clearScores : Cond.code yX3_clearScores cX3_clearScores 1 none ∈ tA := tg (lt_2 (List.mem_of_getElem? (i := 221) rfl)) rfl
theorem ml_X3_57 : Cond.methodLink RX3 57 yJ7_fill_53178 ∈ tA := tg (lt_2 (List.mem_of_getElem? (i := 222) rfl)) rfl
theorem ml_X8_172 : Cond.methodLink RX8 172 yX5_clear ∈ tA := tg (lt_2 (List.mem_of_getElem? (i := 223) rfl)) rfl
theorem im_X5_clear : Cond.instanceMethod yX5_clear ∈ tA := tg (lt_2 (List.mem_of_getElem? (i := 224) rfl)) rfl
theorem se_X5_clear : Cond.selects RX5 yX5_clear yX5_clear ∈ tA := tg (lt_2 (List.mem_of_getElem? (i := 225) rfl)) rfl
theorem co_X5_clear : Cond.code yX5_clear cX5_clear 1 none ∈ tA := tg (lt_2 (List.mem_of_getElem? (i := 226) rfl)) rfl
theorem ml_L_73 : Cond.methodLink RL 73 yX8_absent ∈ tA := tg (lt_2 (List.mem_of_getElem? (i := 227) rfl)) rfl
theorem im_X8_absent : Cond.instanceMethod yX8_absent ∈ tA := tg (lt_2 (List.mem_of_getElem? (i := 228) rfl)) rfl
theorem se_X8_absent : Cond.selects RX8 yX8_absent yX8_absent ∈ tA := tg (lt_2 (List.mem_of_getElem? (i := 229) rfl)) rfl
theorem co_X8_absent : Cond.code yX8_absent cX8_absent 5 (some .int) ∈ tA := tg (lt_2 (List.mem_of_getElem? (i := 230) rfl)) rfl
theorem ml_L_78 : Cond.methodLink RL 78 yX8_barred ∈ tA := tg (lt_2 (List.mem_of_getElem? (i := 231) rfl)) rfl
theorem im_X8_barred : Cond.instanceMethod yX8_barred ∈ tA := tg (lt_2 (List.mem_of_getElem? (i := 232) rfl)) rfl
theorem se_X8_barred : Cond.selects RX8 yX8_barred yX8_barred ∈ tA := tg (lt_2 (List.mem_of_getElem? (i := 233) rfl)) rfl
theorem co_X8_barred : Cond.code yX8_barred cX8_barred 3 (some .int) ∈ tA := tg (lt_2 (List.mem_of_getElem? (i := 234) rfl)) rfl
theorem ml_X8_178 : Cond.methodLink RX8 178 yX8_barsBetween ∈ tA := tg (lt_2 (List.mem_of_getElem? (i := 235) rfl)) rfl
theorem im_X8_barsBetween : Cond.instanceMethod yX8_barsBetween ∈ tA := tg (lt_2 (List.mem_of_getElem? (i := 237) rfl)) rfl
theorem co_X8_barsBetween : Cond.code yX8_barsBetween cX8_barsBetween 4 (some .int) ∈ tA := tg (lt_2 (List.mem_of_getElem? (i := 238) rfl)) rfl
theorem ml_X8_345 : Cond.methodLink RX8 345 yX6_haveMet ∈ tA := tg (lt_2 (List.mem_of_getElem? (i := 239) rfl)) rfl
theorem im_X6_haveMet : Cond.instanceMethod yX6_haveMet ∈ tA := tg (lt_3 (List.mem_of_getElem? (i := 0) rfl)) rfl
theorem se_X6_haveMet : Cond.selects RX6 yX6_haveMet yX6_haveMet ∈ tA := tg (lt_3 (List.mem_of_getElem? (i := 1) rfl)) rfl
theorem co_X6_haveMet : Cond.code yX6_haveMet cX6_haveMet 3 (some .boolean) ∈ tA := tg (lt_3 (List.mem_of_getElem? (i := 2) rfl)) rfl
theorem ml_L_82 : Cond.methodLink RL 82 yX8_draw ∈ tA := tg (lt_3 (List.mem_of_getElem? (i := 3) rfl)) rfl
theorem im_X8_draw : Cond.instanceMethod yX8_draw ∈ tA := tg (lt_3 (List.mem_of_getElem? (i := 4) rfl)) rfl
theorem se_X8_draw : Cond.selects RX8 yX8_draw yX8_draw ∈ tA := tg (lt_3 (List.mem_of_getElem? (i := 5) rfl)) rfl
theorem co_X8_draw : Cond.code yX8_draw cX8_draw 1 (some .int) ∈ tA := tg (lt_3 (List.mem_of_getElem? (i := 6) rfl)) rfl
theorem ml_X8_190 : Cond.methodLink RX8 190 yX8_gatherThosePresent ∈ tA := tg (lt_3 (List.mem_of_getElem? (i := 7) rfl)) rfl
theorem im_X8_gatherThosePresent : Cond.instanceMethod yX8_gatherThosePresent ∈ tA := tg (lt_3 (List.mem_of_getElem? (i := 9) rfl)) rfl
theorem co_X8_gatherThosePresent : Cond.code yX8_gatherThosePresent cX8_gatherThosePresent 3 none ∈ tA := tg (lt_3 (List.mem_of_getElem? (i := 10) rfl)) rfl
theorem ml_X8_193 : Cond.methodLink RX8 193 yX8_setCharges ∈ tA := tg (lt_3 (List.mem_of_getElem? (i := 11) rfl)) rfl
theorem im_X8_setCharges : Cond.instanceMethod yX8_setCharges ∈ tA := tg (lt_3 (List.mem_of_getElem? (i := 13) rfl)) rfl
theorem co_X8_setCharges : Cond.code yX8_setCharges cX8_setCharges 3 none ∈ tA := tg (lt_3 (List.mem_of_getElem? (i := 14) rfl)) rfl
theorem ml_X8_357 : Cond.methodLink RX8 357 yX8_chargeFor ∈ tA := tg (lt_3 (List.mem_of_getElem? (i := 15) rfl)) rfl
theorem im_X8_chargeFor : Cond.instanceMethod yX8_chargeFor ∈ tA := tg (lt_3 (List.mem_of_getElem? (i := 17) rfl)) rfl
theorem co_X8_chargeFor : Cond.code yX8_chargeFor cX8_chargeFor 4 (some .int) ∈ tA := tg (lt_3 (List.mem_of_getElem? (i := 18) rfl)) rfl
theorem ml_X8_360 : Cond.methodLink RX8 360 Lib.Math.abs.name ∈ tA := tg (lt_3 (List.mem_of_getElem? (i := 19) rfl)) rfl
theorem st_abs : Cond.static Lib.Math.abs.name ∈ tA := tg (lt_3 (List.mem_of_getElem? (i := 20) rfl)) rfl
theorem co_abs : Cond.code Lib.Math.abs.name Lib.Math.abs.code 1 (some .int) ∈ tA := tg (lt_3 (List.mem_of_getElem? (i := 21) rfl)) rfl
theorem ml_X8_196 : Cond.methodLink RX8 196 yX1_solve ∈ tA := tg (lt_3 (List.mem_of_getElem? (i := 22) rfl)) rfl
theorem im_X1_solve : Cond.instanceMethod yX1_solve ∈ tA := tg (lt_3 (List.mem_of_getElem? (i := 23) rfl)) rfl
theorem se_X1_solve : Cond.selects RX1 yX1_solve yX1_solve ∈ tA := tg (lt_3 (List.mem_of_getElem? (i := 24) rfl)) rfl
theorem co_X1_solve : Cond.code yX1_solve cX1_solve 6 (some .int) ∈ tA := tg (lt_3 (List.mem_of_getElem? (i := 25) rfl)) rfl
theorem ml_X1_30 : Cond.methodLink RX1 30 Lib.Math.min.name ∈ tA := tg (lt_3 (List.mem_of_getElem? (i := 26) rfl)) rfl
theorem ml_X1_36 : Cond.methodLink RX1 36 yJ7_fill_fda19 ∈ tA := tg (lt_3 (List.mem_of_getElem? (i := 27) rfl)) rfl
theorem st_J7_fill_fda19 : Cond.static yJ7_fill_fda19 ∈ tA := tg (lt_3 (List.mem_of_getElem? (i := 28) rfl)) rfl
theorem co_J7_fill_fda19 : Cond.code yJ7_fill_fda19 cJ7_fill_fda19 5 none ∈ tA := tg (lt_3 (List.mem_of_getElem? (i := 29) rfl)) rfl
theorem ml_J7_13 : Cond.methodLink RJ7 13 yJ7_rangeCheck_23922 ∈ tA := tg (lt_3 (List.mem_of_getElem? (i := 30) rfl)) rfl
theorem st_J7_rangeCheck_23922 : Cond.static yJ7_rangeCheck_23922 ∈ tA := tg (lt_3 (List.mem_of_getElem? (i := 31) rfl)) rfl
theorem co_J7_rangeCheck_23922 : Cond.code yJ7_rangeCheck_23922 cJ7_rangeCheck_23922 3 none ∈ tA := tg (lt_3 (List.mem_of_getElem? (i := 32) rfl)) rfl
theorem ml_X1_42 : Cond.methodLink RX1 42 yJ7_fill_53178 ∈ tA := tg (lt_3 (List.mem_of_getElem? (i := 33) rfl)) rfl
theorem ml_X1_45 : Cond.methodLink RX1 45 yX1_leastCost ∈ tA := tg (lt_3 (List.mem_of_getElem? (i := 34) rfl)) rfl
theorem st_X1_leastCost : Cond.static yX1_leastCost ∈ tA := tg (lt_3 (List.mem_of_getElem? (i := 35) rfl)) rfl
theorem co_X1_leastCost : Cond.code yX1_leastCost cX1_leastCost 9 (some .int) ∈ tA := tg (lt_3 (List.mem_of_getElem? (i := 36) rfl)) rfl
theorem ml_X1_49 : Cond.methodLink RX1 49 yX1_bitOf ∈ tA := tg (lt_3 (List.mem_of_getElem? (i := 37) rfl)) rfl
theorem im_X1_bitOf : Cond.instanceMethod yX1_bitOf ∈ tA := tg (lt_3 (List.mem_of_getElem? (i := 39) rfl)) rfl
theorem co_X1_bitOf : Cond.code yX1_bitOf cX1_bitOf 2 (some .int) ∈ tA := tg (lt_3 (List.mem_of_getElem? (i := 40) rfl)) rfl
theorem k_X1_57 : (Jvm.Cond.constant RX1 (57 : Nat) (1000000 : Int32)) ∈ tA := tg (lt_3 (List.mem_of_getElem? (i := 41) rfl)) rfl
theorem ml_X1_53 : Cond.methodLink RX1 53 yX1_uppermostMate ∈ tA := tg (lt_3 (List.mem_of_getElem? (i := 42) rfl)) rfl
theorem im_X1_uppermostMate : Cond.instanceMethod yX1_uppermostMate ∈ tA := tg (lt_3 (List.mem_of_getElem? (i := 44) rfl)) rfl
theorem co_X1_uppermostMate : Cond.code yX1_uppermostMate cX1_uppermostMate 6 (some .int) ∈ tA := tg (lt_3 (List.mem_of_getElem? (i := 45) rfl)) rfl
theorem ml_X8_203 : Cond.methodLink RX8 203 yX8_enterDay ∈ tA := tg (lt_3 (List.mem_of_getElem? (i := 46) rfl)) rfl
theorem im_X8_enterDay : Cond.instanceMethod yX8_enterDay ∈ tA := tg (lt_3 (List.mem_of_getElem? (i := 48) rfl)) rfl
theorem co_X8_enterDay : Cond.code yX8_enterDay cX8_enterDay 4 (some .int) ∈ tA := tg (lt_3 (List.mem_of_getElem? (i := 49) rfl)) rfl
theorem ml_X8_371 : Cond.methodLink RX8 371 yX6_addBout ∈ tA := tg (lt_3 (List.mem_of_getElem? (i := 50) rfl)) rfl
theorem im_X6_addBout : Cond.instanceMethod yX6_addBout ∈ tA := tg (lt_3 (List.mem_of_getElem? (i := 51) rfl)) rfl
theorem se_X6_addBout : Cond.selects RX6 yX6_addBout yX6_addBout ∈ tA := tg (lt_3 (List.mem_of_getElem? (i := 52) rfl)) rfl
theorem co_X6_addBout : Cond.code yX6_addBout cX6_addBout 3 none ∈ tA := tg (lt_3 (List.mem_of_getElem? (i := 53) rfl)) rfl
theorem ml_L_87 : Cond.methodLink RL 87 yX8_cost ∈ tA := tg (lt_3 (List.mem_of_getElem? (i := 54) rfl)) rfl
theorem im_X8_cost : Cond.instanceMethod yX8_cost ∈ tA := tg (lt_3 (List.mem_of_getElem? (i := 55) rfl)) rfl
theorem se_X8_cost : Cond.selects RX8 yX8_cost yX8_cost ∈ tA := tg (lt_3 (List.mem_of_getElem? (i := 56) rfl)) rfl
theorem co_X8_cost : Cond.code yX8_cost cX8_cost 1 (some .int) ∈ tA := tg (lt_3 (List.mem_of_getElem? (i := 57) rfl)) rfl
theorem ml_L_91 : Cond.methodLink RL 91 yX8_result ∈ tA := tg (lt_3 (List.mem_of_getElem? (i := 58) rfl)) rfl
theorem im_X8_result : Cond.instanceMethod yX8_result ∈ tA := tg (lt_3 (List.mem_of_getElem? (i := 59) rfl)) rfl
theorem se_X8_result : Cond.selects RX8 yX8_result yX8_result ∈ tA := tg (lt_3 (List.mem_of_getElem? (i := 60) rfl)) rfl
theorem co_X8_result : Cond.code yX8_result cX8_result 4 (some .int) ∈ tA := tg (lt_3 (List.mem_of_getElem? (i := 61) rfl)) rfl
theorem ml_X8_206 : Cond.methodLink RX8 206 yX6_knows ∈ tA := tg (lt_3 (List.mem_of_getElem? (i := 62) rfl)) rfl
theorem im_X6_knows : Cond.instanceMethod yX6_knows ∈ tA := tg (lt_3 (List.mem_of_getElem? (i := 63) rfl)) rfl
theorem se_X6_knows : Cond.selects RX6 yX6_knows yX6_knows ∈ tA := tg (lt_3 (List.mem_of_getElem? (i := 64) rfl)) rfl
theorem co_X6_knows : Cond.code yX6_knows cX6_knows 2 (some .boolean) ∈ tA := tg (lt_3 (List.mem_of_getElem? (i := 65) rfl)) rfl
theorem ml_X8_219 : Cond.methodLink RX8 219 yX6_loserOf ∈ tA := tg (lt_3 (List.mem_of_getElem? (i := 66) rfl)) rfl
theorem im_X6_loserOf : Cond.instanceMethod yX6_loserOf ∈ tA := tg (lt_3 (List.mem_of_getElem? (i := 67) rfl)) rfl
theorem se_X6_loserOf : Cond.selects RX6 yX6_loserOf yX6_loserOf ∈ tA := tg (lt_3 (List.mem_of_getElem? (i := 68) rfl)) rfl
theorem co_X6_loserOf : Cond.code yX6_loserOf cX6_loserOf 2 (some .int) ∈ tA := tg (lt_3 (List.mem_of_getElem? (i := 69) rfl)) rfl
theorem ml_L_95 : Cond.methodLink RL 95 yX8_bout ∈ tA := tg (lt_3 (List.mem_of_getElem? (i := 70) rfl)) rfl
theorem im_X8_bout : Cond.instanceMethod yX8_bout ∈ tA := tg (lt_3 (List.mem_of_getElem? (i := 71) rfl)) rfl
theorem se_X8_bout : Cond.selects RX8 yX8_bout yX8_bout ∈ tA := tg (lt_3 (List.mem_of_getElem? (i := 72) rfl)) rfl
theorem co_X8_bout : Cond.code yX8_bout cX8_bout 3 (some .int) ∈ tA := tg (lt_3 (List.mem_of_getElem? (i := 73) rfl)) rfl
theorem ml_X8_222 : Cond.methodLink RX8 222 yX6_fact ∈ tA := tg (lt_3 (List.mem_of_getElem? (i := 74) rfl)) rfl
theorem im_X6_fact : Cond.instanceMethod yX6_fact ∈ tA := tg (lt_3 (List.mem_of_getElem? (i := 75) rfl)) rfl
theorem se_X6_fact : Cond.selects RX6 yX6_fact yX6_fact ∈ tA := tg (lt_3 (List.mem_of_getElem? (i := 76) rfl)) rfl
theorem co_X6_fact : Cond.code yX6_fact cX6_fact 3 (some .int) ∈ tA := tg (lt_3 (List.mem_of_getElem? (i := 77) rfl)) rfl
theorem ml_L_99 : Cond.methodLink RL 99 yX8_sat ∈ tA := tg (lt_3 (List.mem_of_getElem? (i := 78) rfl)) rfl
theorem im_X8_sat : Cond.instanceMethod yX8_sat ∈ tA := tg (lt_3 (List.mem_of_getElem? (i := 79) rfl)) rfl
theorem se_X8_sat : Cond.selects RX8 yX8_sat yX8_sat ∈ tA := tg (lt_3 (List.mem_of_getElem? (i := 80) rfl)) rfl
theorem co_X8_sat : Cond.code yX8_sat cX8_sat 1 (some .int) ∈ tA := tg (lt_3 (List.mem_of_getElem? (i := 81) rfl)) rfl
theorem ml_L_103 : Cond.methodLink RL 103 yX8_line ∈ tA := tg (lt_3 (List.mem_of_getElem? (i := 82) rfl)) rfl
theorem im_X8_line : Cond.instanceMethod yX8_line ∈ tA := tg (lt_3 (List.mem_of_getElem? (i := 83) rfl)) rfl
theorem se_X8_line : Cond.selects RX8 yX8_line yX8_line ∈ tA := tg (lt_3 (List.mem_of_getElem? (i := 84) rfl)) rfl
theorem co_X8_line : Cond.code yX8_line cX8_line 4 (some .int) ∈ tA := tg (lt_3 (List.mem_of_getElem? (i := 85) rfl)) rfl
theorem ml_X8_229 : Cond.methodLink RX8 229 yX0_add ∈ tA := tg (lt_3 (List.mem_of_getElem? (i := 86) rfl)) rfl
theorem im_X0_add : Cond.instanceMethod yX0_add ∈ tA := tg (lt_3 (List.mem_of_getElem? (i := 87) rfl)) rfl
theorem se_X0_add : Cond.selects RX0 yX0_add yX0_add ∈ tA := tg (lt_3 (List.mem_of_getElem? (i := 88) rfl)) rfl
theorem co_X0_add : Cond.code yX0_add cX0_add 4 (some .int) ∈ tA := tg (lt_3 (List.mem_of_getElem? (i := 89) rfl)) rfl
theorem ml_L_107 : Cond.methodLink RL 107 yX8_anew ∈ tA := tg (lt_3 (List.mem_of_getElem? (i := 90) rfl)) rfl
theorem im_X8_anew : Cond.instanceMethod yX8_anew ∈ tA := tg (lt_3 (List.mem_of_getElem? (i := 91) rfl)) rfl
theorem se_X8_anew : Cond.selects RX8 yX8_anew yX8_anew ∈ tA := tg (lt_3 (List.mem_of_getElem? (i := 92) rfl)) rfl
theorem co_X8_anew : Cond.code yX8_anew cX8_anew 3 (some .int) ∈ tA := tg (lt_3 (List.mem_of_getElem? (i := 93) rfl)) rfl
theorem ml_X8_230 : Cond.methodLink RX8 230 yX6_isComplete ∈ tA := tg (lt_3 (List.mem_of_getElem? (i := 94) rfl)) rfl
theorem im_X6_isComplete : Cond.instanceMethod yX6_isComplete ∈ tA := tg (lt_3 (List.mem_of_getElem? (i := 95) rfl)) rfl
theorem se_X6_isComplete : Cond.selects RX6 yX6_isComplete yX6_isComplete ∈ tA := tg (lt_3 (List.mem_of_getElem? (i := 96) rfl)) rfl
theorem co_X6_isComplete : Cond.code yX6_isComplete cX6_isComplete 1 (some .boolean) ∈ tA := tg (lt_3 (List.mem_of_getElem? (i := 97) rfl)) rfl
theorem ml_X8_234 : Cond.methodLink RX8 234 yX5_goesOn ∈ tA := tg (lt_3 (List.mem_of_getElem? (i := 98) rfl)) rfl
theorem im_X5_goesOn : Cond.instanceMethod yX5_goesOn ∈ tA := tg (lt_3 (List.mem_of_getElem? (i := 99) rfl)) rfl
theorem se_X5_goesOn : Cond.selects RX5 yX5_goesOn yX5_goesOn ∈ tA := tg (lt_3 (List.mem_of_getElem? (i := 100) rfl)) rfl
theorem co_X5_goesOn : Cond.code yX5_goesOn cX5_goesOn 1 (some .boolean) ∈ tA := tg (lt_3 (List.mem_of_getElem? (i := 101) rfl)) rfl
theorem ml_X8_237 : Cond.methodLink RX8 237 yX7_recall ∈ tA := tg (lt_3 (List.mem_of_getElem? (i := 102) rfl)) rfl
theorem im_X7_recall : Cond.instanceMethod yX7_recall ∈ tA := tg (lt_3 (List.mem_of_getElem? (i := 103) rfl)) rfl
theorem se_X7_recall : Cond.selects RX7 yX7_recall yX7_recall ∈ tA := tg (lt_3 (List.mem_of_getElem? (i := 104) rfl)) rfl
theorem co_X7_recall : Cond.code yX7_recall cX7_recall 4 none ∈ tA := tg (lt_3 (List.mem_of_getElem? (i := 105) rfl)) rfl
theorem ml_X8_245 : Cond.methodLink RX8 245 yX8_moveByCustom ∈ tA := tg (lt_3 (List.mem_of_getElem? (i := 106) rfl)) rfl
theorem im_X8_moveByCustom : Cond.instanceMethod yX8_moveByCustom ∈ tA := tg (lt_3 (List.mem_of_getElem? (i := 108) rfl)) rfl
theorem co_X8_moveByCustom : Cond.code yX8_moveByCustom cX8_moveByCustom 5 none ∈ tA := tg (lt_3 (List.mem_of_getElem? (i := 109) rfl)) rfl
theorem ml_X8_279 : Cond.methodLink RX8 279 yX0_lineFor ∈ tA := tg (lt_3 (List.mem_of_getElem? (i := 110) rfl)) rfl
theorem im_X0_lineFor : Cond.instanceMethod yX0_lineFor ∈ tA := tg (lt_3 (List.mem_of_getElem? (i := 111) rfl)) rfl
theorem se_X0_lineFor : Cond.selects RX0 yX0_lineFor yX0_lineFor ∈ tA := tg (lt_3 (List.mem_of_getElem? (i := 112) rfl)) rfl
theorem co_X0_lineFor : Cond.code yX0_lineFor cX0_lineFor 4 (some .int) ∈ tA := tg (lt_3 (List.mem_of_getElem? (i := 113) rfl)) rfl
theorem ml_X8_285 : Cond.methodLink RX8 285 yX0_steps ∈ tA := tg (lt_3 (List.mem_of_getElem? (i := 114) rfl)) rfl
theorem im_X0_steps : Cond.instanceMethod yX0_steps ∈ tA := tg (lt_3 (List.mem_of_getElem? (i := 115) rfl)) rfl
theorem se_X0_steps : Cond.selects RX0 yX0_steps yX0_steps ∈ tA := tg (lt_3 (List.mem_of_getElem? (i := 116) rfl)) rfl
theorem co_X0_steps : Cond.code yX0_steps cX0_steps 4 (some .int) ∈ tA := tg (lt_3 (List.mem_of_getElem? (i := 117) rfl)) rfl
theorem ml_X0_25 : Cond.methodLink RX0 25 Lib.Math.max.name ∈ tA := tg (lt_3 (List.mem_of_getElem? (i := 118) rfl)) rfl
theorem ml_X8_288 : Cond.methodLink RX8 288 yX7_aimAt ∈ tA := tg (lt_3 (List.mem_of_getElem? (i := 119) rfl)) rfl
theorem im_X7_aimAt : Cond.instanceMethod yX7_aimAt ∈ tA := tg (lt_3 (List.mem_of_getElem? (i := 120) rfl)) rfl
theorem se_X7_aimAt : Cond.selects RX7 yX7_aimAt yX7_aimAt ∈ tA := tg (lt_3 (List.mem_of_getElem? (i := 121) rfl)) rfl
theorem co_X7_aimAt : Cond.code yX7_aimAt cX7_aimAt 4 none ∈ tA := tg (lt_3 (List.mem_of_getElem? (i := 122) rfl)) rfl
theorem ml_X8_248 : Cond.methodLink RX8 248 yX7_arrange ∈ tA := tg (lt_3 (List.mem_of_getElem? (i := 123) rfl)) rfl
theorem im_X7_arrange : Cond.instanceMethod yX7_arrange ∈ tA := tg (lt_3 (List.mem_of_getElem? (i := 124) rfl)) rfl
theorem se_X7_arrange : Cond.selects RX7 yX7_arrange yX7_arrange ∈ tA := tg (lt_3 (List.mem_of_getElem? (i := 125) rfl)) rfl
theorem co_X7_arrange : Cond.code yX7_arrange cX7_arrange 4 none ∈ tA := tg (lt_3 (List.mem_of_getElem? (i := 126) rfl)) rfl
theorem ml_X8_257 : Cond.methodLink RX8 257 yX3_place ∈ tA := tg (lt_3 (List.mem_of_getElem? (i := 127) rfl)) rfl
theorem ml_X8_263 : Cond.methodLink RX8 263 yX7_differing ∈ tA := tg (lt_3 (List.mem_of_getElem? (i := 128) rfl)) rfl
theorem im_X7_differing : Cond.instanceMethod yX7_differing ∈ tA := tg (lt_3 (List.mem_of_getElem? (i := 129) rfl)) rfl
theorem se_X7_differing : Cond.selects RX7 yX7_differing yX7_differing ∈ tA := tg (lt_3 (List.mem_of_getElem? (i := 130) rfl)) rfl
theorem co_X7_differing : Cond.code yX7_differing cX7_differing 5 (some .int) ∈ tA := tg (lt_3 (List.mem_of_getElem? (i := 131) rfl)) rfl
theorem ml_L_111 : Cond.methodLink RL 111 yX8_why ∈ tA := tg (lt_3 (List.mem_of_getElem? (i := 132) rfl)) rfl
theorem im_X8_why : Cond.instanceMethod yX8_why ∈ tA := tg (lt_3 (List.mem_of_getElem? (i := 133) rfl)) rfl
theorem se_X8_why : Cond.selects RX8 yX8_why yX8_why ∈ tA := tg (lt_3 (List.mem_of_getElem? (i := 134) rfl)) rfl
theorem co_X8_why : Cond.code yX8_why cX8_why 3 (some .int) ∈ tA := tg (lt_3 (List.mem_of_getElem? (i := 135) rfl)) rfl
theorem ml_L_115 : Cond.methodLink RL 115 yX8_passed ∈ tA := tg (lt_3 (List.mem_of_getElem? (i := 136) rfl)) rfl
theorem im_X8_passed : Cond.instanceMethod yX8_passed ∈ tA := tg (lt_3 (List.mem_of_getElem? (i := 137) rfl)) rfl
theorem se_X8_passed : Cond.selects RX8 yX8_passed yX8_passed ∈ tA := tg (lt_3 (List.mem_of_getElem? (i := 138) rfl)) rfl
theorem co_X8_passed : Cond.code yX8_passed cX8_passed 3 (some .int) ∈ tA := tg (lt_3 (List.mem_of_getElem? (i := 139) rfl)) rfl
theorem ml_X8_270 : Cond.methodLink RX8 270 yX7_overtook ∈ tA := tg (lt_3 (List.mem_of_getElem? (i := 140) rfl)) rfl
theorem im_X7_overtook : Cond.instanceMethod yX7_overtook ∈ tA := tg (lt_3 (List.mem_of_getElem? (i := 141) rfl)) rfl
theorem se_X7_overtook : Cond.selects RX7 yX7_overtook yX7_overtook ∈ tA := tg (lt_3 (List.mem_of_getElem? (i := 142) rfl)) rfl
theorem co_X7_overtook : Cond.code yX7_overtook cX7_overtook 3 (some .boolean) ∈ tA := tg (lt_3 (List.mem_of_getElem? (i := 143) rfl)) rfl
theorem ml_L_119 : Cond.methodLink RL 119 yX8_beside ∈ tA := tg (lt_3 (List.mem_of_getElem? (i := 144) rfl)) rfl
theorem im_X8_beside : Cond.instanceMethod yX8_beside ∈ tA := tg (lt_3 (List.mem_of_getElem? (i := 145) rfl)) rfl
theorem se_X8_beside : Cond.selects RX8 yX8_beside yX8_beside ∈ tA := tg (lt_3 (List.mem_of_getElem? (i := 146) rfl)) rfl
theorem co_X8_beside : Cond.code yX8_beside cX8_beside 5 (some .int) ∈ tA := tg (lt_3 (List.mem_of_getElem? (i := 147) rfl)) rfl
theorem ml_X8_273 : Cond.methodLink RX8 273 yX8_scoreWithout ∈ tA := tg (lt_3 (List.mem_of_getElem? (i := 148) rfl)) rfl
theorem im_X8_scoreWithout : Cond.instanceMethod yX8_scoreWithout ∈ tA := tg (lt_3 (List.mem_of_getElem? (i := 150) rfl)) rfl
theorem co_X8_scoreWithout : Cond.code yX8_scoreWithout cX8_scoreWithout 4 (some .int) ∈ tA := tg (lt_3 (List.mem_of_getElem? (i := 151) rfl)) rfl
theorem ml_L_123 : Cond.methodLink RL 123 yX8_rungBeside ∈ tA := tg (lt_3 (List.mem_of_getElem? (i := 152) rfl)) rfl
theorem im_X8_rungBeside : Cond.instanceMethod yX8_rungBeside ∈ tA := tg (lt_3 (List.mem_of_getElem? (i := 153) rfl)) rfl
theorem se_X8_rungBeside : Cond.selects RX8 yX8_rungBeside yX8_rungBeside ∈ tA := tg (lt_3 (List.mem_of_getElem? (i := 154) rfl)) rfl
theorem co_X8_rungBeside : Cond.code yX8_rungBeside cX8_rungBeside 3 (some .int) ∈ tA := tg (lt_3 (List.mem_of_getElem? (i := 155) rfl)) rfl
theorem ml_L_127 : Cond.methodLink RL 127 yX8_leaders ∈ tA := tg (lt_3 (List.mem_of_getElem? (i := 156) rfl)) rfl
theorem im_X8_leaders : Cond.instanceMethod yX8_leaders ∈ tA := tg (lt_3 (List.mem_of_getElem? (i := 157) rfl)) rfl
theorem se_X8_leaders : Cond.selects RX8 yX8_leaders yX8_leaders ∈ tA := tg (lt_3 (List.mem_of_getElem? (i := 158) rfl)) rfl
theorem co_X8_leaders : Cond.code yX8_leaders cX8_leaders 5 (some .int) ∈ tA := tg (lt_3 (List.mem_of_getElem? (i := 159) rfl)) rfl
theorem ml_X8_294 : Cond.methodLink RX8 294 yX3_mostWins ∈ tA := tg (lt_3 (List.mem_of_getElem? (i := 160) rfl)) rfl
theorem im_X3_mostWins : Cond.instanceMethod yX3_mostWins ∈ tA := tg (lt_3 (List.mem_of_getElem? (i := 161) rfl)) rfl
theorem se_X3_mostWins : Cond.selects RX3 yX3_mostWins yX3_mostWins ∈ tA := tg (lt_3 (List.mem_of_getElem? (i := 162) rfl)) rfl
theorem co_X3_mostWins : Cond.code yX3_mostWins cX3_mostWins 3 (some .int) ∈ tA := tg (lt_3 (List.mem_of_getElem? (i := 163) rfl)) rfl
theorem ml_X3_63 : Cond.methodLink RX3 63 Lib.Math.max.name ∈ tA := tg (lt_3 (List.mem_of_getElem? (i := 164) rfl)) rfl
theorem ml_L_131 : Cond.methodLink RL 131 yX8_playOff ∈ tA := tg (lt_3 (List.mem_of_getElem? (i := 165) rfl)) rfl
theorem im_X8_playOff : Cond.instanceMethod yX8_playOff ∈ tA := tg (lt_3 (List.mem_of_getElem? (i := 166) rfl)) rfl
theorem se_X8_playOff : Cond.selects RX8 yX8_playOff yX8_playOff ∈ tA := tg (lt_3 (List.mem_of_getElem? (i := 167) rfl)) rfl
theorem co_X8_playOff : Cond.code yX8_playOff cX8_playOff 4 (some .int) ∈ tA := tg (lt_3 (List.mem_of_getElem? (i := 168) rfl)) rfl
theorem ml_X8_300 : Cond.methodLink RX8 300 yX5_append ∈ tA := tg (lt_3 (List.mem_of_getElem? (i := 169) rfl)) rfl
theorem im_X5_append : Cond.instanceMethod yX5_append ∈ tA := tg (lt_3 (List.mem_of_getElem? (i := 170) rfl)) rfl
theorem se_X5_append : Cond.selects RX5 yX5_append yX5_append ∈ tA := tg (lt_3 (List.mem_of_getElem? (i := 171) rfl)) rfl
theorem co_X5_append : Cond.code yX5_append cX5_append 2 none ∈ tA := tg (lt_3 (List.mem_of_getElem? (i := 172) rfl)) rfl
theorem ml_X8_303 : Cond.methodLink RX8 303 yX8_crownIfAlone ∈ tA := tg (lt_3 (List.mem_of_getElem? (i := 173) rfl)) rfl
theorem im_X8_crownIfAlone : Cond.instanceMethod yX8_crownIfAlone ∈ tA := tg (lt_3 (List.mem_of_getElem? (i := 175) rfl)) rfl
theorem co_X8_crownIfAlone : Cond.code yX8_crownIfAlone cX8_crownIfAlone 1 none ∈ tA := tg (lt_3 (List.mem_of_getElem? (i := 176) rfl)) rfl
theorem ml_L_135 : Cond.methodLink RL 135 yX8_meets ∈ tA := tg (lt_3 (List.mem_of_getElem? (i := 177) rfl)) rfl
theorem im_X8_meets : Cond.instanceMethod yX8_meets ∈ tA := tg (lt_3 (List.mem_of_getElem? (i := 178) rfl)) rfl
theorem se_X8_meets : Cond.selects RX8 yX8_meets yX8_meets ∈ tA := tg (lt_3 (List.mem_of_getElem? (i := 179) rfl)) rfl
theorem co_X8_meets : Cond.code yX8_meets cX8_meets 2 (some .int) ∈ tA := tg (lt_3 (List.mem_of_getElem? (i := 180) rfl)) rfl
theorem ml_L_140 : Cond.methodLink RL 140 yX8_wins ∈ tA := tg (lt_3 (List.mem_of_getElem? (i := 181) rfl)) rfl
theorem im_X8_wins : Cond.instanceMethod yX8_wins ∈ tA := tg (lt_3 (List.mem_of_getElem? (i := 182) rfl)) rfl
theorem se_X8_wins : Cond.selects RX8 yX8_wins yX8_wins ∈ tA := tg (lt_3 (List.mem_of_getElem? (i := 183) rfl)) rfl
theorem co_X8_wins : Cond.code yX8_wins cX8_wins 2 (some .int) ∈ tA := tg (lt_3 (List.mem_of_getElem? (i := 184) rfl)) rfl
theorem ml_X8_312 : Cond.methodLink RX8 312 yX5_settle ∈ tA := tg (lt_3 (List.mem_of_getElem? (i := 185) rfl)) rfl
theorem im_X5_settle : Cond.instanceMethod yX5_settle ∈ tA := tg (lt_3 (List.mem_of_getElem? (i := 186) rfl)) rfl
theorem se_X5_settle : Cond.selects RX5 yX5_settle yX5_settle ∈ tA := tg (lt_3 (List.mem_of_getElem? (i := 187) rfl)) rfl
theorem co_X5_settle : Cond.code yX5_settle cX5_settle 4 none ∈ tA := tg (lt_3 (List.mem_of_getElem? (i := 188) rfl)) rfl
theorem ml_L_144 : Cond.methodLink RL 144 yX8_champion ∈ tA := tg (lt_3 (List.mem_of_getElem? (i := 189) rfl)) rfl
theorem im_X8_champion : Cond.instanceMethod yX8_champion ∈ tA := tg (lt_3 (List.mem_of_getElem? (i := 190) rfl)) rfl
theorem se_X8_champion : Cond.selects RX8 yX8_champion yX8_champion ∈ tA := tg (lt_3 (List.mem_of_getElem? (i := 191) rfl)) rfl
theorem co_X8_champion : Cond.code yX8_champion cX8_champion 1 (some .int) ∈ tA := tg (lt_3 (List.mem_of_getElem? (i := 192) rfl)) rfl
theorem ml_L_148 : Cond.methodLink RL 148 yX8_count ∈ tA := tg (lt_3 (List.mem_of_getElem? (i := 193) rfl)) rfl
theorem im_X8_count : Cond.instanceMethod yX8_count ∈ tA := tg (lt_3 (List.mem_of_getElem? (i := 194) rfl)) rfl
theorem se_X8_count : Cond.selects RX8 yX8_count yX8_count ∈ tA := tg (lt_3 (List.mem_of_getElem? (i := 195) rfl)) rfl
theorem co_X8_count : Cond.code yX8_count cX8_count 2 (some .int) ∈ tA := tg (lt_3 (List.mem_of_getElem? (i := 196) rfl)) rfl
theorem ml_X8_319 : Cond.methodLink RX8 319 yX8_tally ∈ tA := tg (lt_3 (List.mem_of_getElem? (i := 197) rfl)) rfl
theorem im_X8_tally : Cond.instanceMethod yX8_tally ∈ tA := tg (lt_3 (List.mem_of_getElem? (i := 199) rfl)) rfl
theorem co_X8_tally : Cond.code yX8_tally cX8_tally 2 (some .int) ∈ tA := tg (lt_3 (List.mem_of_getElem? (i := 200) rfl)) rfl
theorem ml_L_152 : Cond.methodLink RL 152 yX8_finding ∈ tA := tg (lt_3 (List.mem_of_getElem? (i := 201) rfl)) rfl
theorem im_X8_finding : Cond.instanceMethod yX8_finding ∈ tA := tg (lt_3 (List.mem_of_getElem? (i := 202) rfl)) rfl
theorem se_X8_finding : Cond.selects RX8 yX8_finding yX8_finding ∈ tA := tg (lt_3 (List.mem_of_getElem? (i := 203) rfl)) rfl
theorem co_X8_finding : Cond.code yX8_finding cX8_finding 1 (some .int) ∈ tA := tg (lt_3 (List.mem_of_getElem? (i := 204) rfl)) rfl
theorem ml_L_156 : Cond.methodLink RL 156 yX8_findings ∈ tA := tg (lt_3 (List.mem_of_getElem? (i := 205) rfl)) rfl
theorem im_X8_findings : Cond.instanceMethod yX8_findings ∈ tA := tg (lt_3 (List.mem_of_getElem? (i := 206) rfl)) rfl
theorem se_X8_findings : Cond.selects RX8 yX8_findings yX8_findings ∈ tA := tg (lt_3 (List.mem_of_getElem? (i := 207) rfl)) rfl
theorem co_X8_findings : Cond.code yX8_findings cX8_findings 2 (some .int) ∈ tA := tg (lt_3 (List.mem_of_getElem? (i := 208) rfl)) rfl
theorem ml_L_160 : Cond.methodLink RL 160 yX8_digest ∈ tA := tg (lt_3 (List.mem_of_getElem? (i := 209) rfl)) rfl
theorem im_X8_digest : Cond.instanceMethod yX8_digest ∈ tA := tg (lt_3 (List.mem_of_getElem? (i := 210) rfl)) rfl
theorem se_X8_digest : Cond.selects RX8 yX8_digest yX8_digest ∈ tA := tg (lt_3 (List.mem_of_getElem? (i := 211) rfl)) rfl
theorem co_X8_digest : Cond.code yX8_digest cX8_digest 5 (some .long) ∈ tA := tg (lt_3 (List.mem_of_getElem? (i := 212) rfl)) rfl
theorem k_X8_328 : (Jvm.Cond.constantLong RX8 (328 : Nat) (17 : Int64)) ∈ tA := tg (lt_3 (List.mem_of_getElem? (i := 213) rfl)) rfl
theorem ml_X8_330 : Cond.methodLink RX8 330 yX8_withWrestler ∈ tA := tg (lt_3 (List.mem_of_getElem? (i := 214) rfl)) rfl
theorem im_X8_withWrestler : Cond.instanceMethod yX8_withWrestler ∈ tA := tg (lt_3 (List.mem_of_getElem? (i := 216) rfl)) rfl
theorem co_X8_withWrestler : Cond.code yX8_withWrestler cX8_withWrestler 7 (some .long) ∈ tA := tg (lt_3 (List.mem_of_getElem? (i := 217) rfl)) rfl
theorem k_X8_334 : (Jvm.Cond.constantLong RX8 (334 : Nat) (31 : Int64)) ∈ tA := tg (lt_3 (List.mem_of_getElem? (i := 218) rfl)) rfl
theorem ml_X8_339 : Cond.methodLink RX8 339 yX8_withSheet ∈ tA := tg (lt_3 (List.mem_of_getElem? (i := 219) rfl)) rfl
theorem im_X8_withSheet : Cond.instanceMethod yX8_withSheet ∈ tA := tg (lt_3 (List.mem_of_getElem? (i := 221) rfl)) rfl
theorem co_X8_withSheet : Cond.code yX8_withSheet cX8_withSheet 7 (some .long) ∈ tA := tg (lt_3 (List.mem_of_getElem? (i := 222) rfl)) rfl
theorem cl_L_10 : Cond.classLink RL 10 RX9 ∈ tA := tg (lt_3 (List.mem_of_getElem? (i := 223) rfl)) rfl
theorem ib_X9 : Cond.instantiable RX9 52 ∈ tA := tg (lt_3 (List.mem_of_getElem? (i := 224) rfl)) rfl
theorem ml_L_12 : Cond.methodLink RL 12 yX9_init ∈ tA := tg (lt_3 (List.mem_of_getElem? (i := 225) rfl)) rfl
theorem im_X9_init : Cond.instanceMethod yX9_init ∈ tA := tg (lt_3 (List.mem_of_getElem? (i := 226) rfl)) rfl
theorem co_X9_init : Cond.code yX9_init cX9_init 2 none ∈ tA := tg (lt_3 (List.mem_of_getElem? (i := 227) rfl)) rfl
theorem ml_X9_1 : Cond.methodLink RX9 1 objectInit ∈ tA := tg (lt_3 (List.mem_of_getElem? (i := 228) rfl)) rfl
theorem k_X9_72 : (Jvm.Cond.constant RX9 (72 : Nat) (65536 : Int32)) ∈ tA := tg (lt_3 (List.mem_of_getElem? (i := 229) rfl)) rfl
theorem fl_X9_119 : Cond.fieldLink RX9 119 "RankBoardModel" "latest" "I" ∈ tA := tg (lt_3 (List.mem_of_getElem? (i := 230) rfl)) rfl
theorem fl_X9_7 : Cond.fieldLink RX9 7 "RankBoardModel" "came" "[I" ∈ tA := tg (lt_3 (List.mem_of_getElem? (i := 231) rfl)) rfl
theorem fl_X9_129 : Cond.fieldLink RX9 129 "RankBoardModel" "ever" "I" ∈ tA := tg (lt_3 (List.mem_of_getElem? (i := 232) rfl)) rfl
theorem fl_X9_13 : Cond.fieldLink RX9 13 "RankBoardModel" "kindOf" "[I" ∈ tA := tg (lt_3 (List.mem_of_getElem? (i := 233) rfl)) rfl
theorem fl_X9_16 : Cond.fieldLink RX9 16 "RankBoardModel" "stableOf" "[I" ∈ tA := tg (lt_3 (List.mem_of_getElem? (i := 234) rfl)) rfl
theorem fl_X9_19 : Cond.fieldLink RX9 19 "RankBoardModel" "kinOf" "[I" ∈ tA := tg (lt_3 (List.mem_of_getElem? (i := 235) rfl)) rfl
theorem fl_X9_22 : Cond.fieldLink RX9 22 "RankBoardModel" "hasLeft" "[Z" ∈ tA := tg (lt_3 (List.mem_of_getElem? (i := 236) rfl)) rfl
theorem fl_X9_26 : Cond.fieldLink RX9 26 "RankBoardModel" "isAbsent" "[Z" ∈ tA := tg (lt_3 (List.mem_of_getElem? (i := 237) rfl)) rfl
theorem fl_X9_29 : Cond.fieldLink RX9 29 "RankBoardModel" "winsOf" "[I" ∈ tA := tg (lt_3 (List.mem_of_getElem? (i := 238) rfl)) rfl
theorem fl_X9_32 : Cond.fieldLink RX9 32 "RankBoardModel" "lossesOf" "[I" ∈ tA := tg (lt_3 (List.mem_of_getElem? (i := 239) rfl)) rfl
theorem fl_X9_35 : Cond.fieldLink RX9 35 "RankBoardModel" "titles" "[I" ∈ tA := tg (lt_4 (List.mem_of_getElem? (i := 0) rfl)) rfl
theorem fl_X9_38 : Cond.fieldLink RX9 38 "RankBoardModel" "marks" "[I" ∈ tA := tg (lt_4 (List.mem_of_getElem? (i := 1) rfl)) rfl
theorem fl_X9_126 : Cond.fieldLink RX9 126 "RankBoardModel" "there" "I" ∈ tA := tg (lt_4 (List.mem_of_getElem? (i := 2) rfl)) rfl
theorem fl_X9_41 : Cond.fieldLink RX9 41 "RankBoardModel" "rungs" "[I" ∈ tA := tg (lt_4 (List.mem_of_getElem? (i := 3) rfl)) rfl
theorem fl_X9_132 : Cond.fieldLink RX9 132 "RankBoardModel" "isMeet" "Z" ∈ tA := tg (lt_4 (List.mem_of_getElem? (i := 4) rfl)) rfl
theorem fl_X9_44 : Cond.fieldLink RX9 44 "RankBoardModel" "sheetSize" "[I" ∈ tA := tg (lt_4 (List.mem_of_getElem? (i := 5) rfl)) rfl
theorem fl_X9_47 : Cond.fieldLink RX9 47 "RankBoardModel" "sheets" "[B" ∈ tA := tg (lt_4 (List.mem_of_getElem? (i := 6) rfl)) rfl
theorem fl_X9_112 : Cond.fieldLink RX9 112 "RankBoardModel" "priceSheet" "I" ∈ tA := tg (lt_4 (List.mem_of_getElem? (i := 7) rfl)) rfl
theorem fl_X9_51 : Cond.fieldLink RX9 51 "RankBoardModel" "copied" "[B" ∈ tA := tg (lt_4 (List.mem_of_getElem? (i := 8) rfl)) rfl
theorem fl_X9_164 : Cond.fieldLink RX9 164 "RankBoardModel" "days" "I" ∈ tA := tg (lt_4 (List.mem_of_getElem? (i := 9) rfl)) rfl
theorem fl_X9_167 : Cond.fieldLink RX9 167 "RankBoardModel" "drawn" "I" ∈ tA := tg (lt_4 (List.mem_of_getElem? (i := 10) rfl)) rfl
theorem fl_X9_170 : Cond.fieldLink RX9 170 "RankBoardModel" "bouts" "I" ∈ tA := tg (lt_4 (List.mem_of_getElem? (i := 11) rfl)) rfl
theorem fl_X9_54 : Cond.fieldLink RX9 54 "RankBoardModel" "boutDay" "[I" ∈ tA := tg (lt_4 (List.mem_of_getElem? (i := 12) rfl)) rfl
theorem fl_X9_57 : Cond.fieldLink RX9 57 "RankBoardModel" "boutUpper" "[I" ∈ tA := tg (lt_4 (List.mem_of_getElem? (i := 13) rfl)) rfl
theorem fl_X9_60 : Cond.fieldLink RX9 60 "RankBoardModel" "boutLower" "[I" ∈ tA := tg (lt_4 (List.mem_of_getElem? (i := 14) rfl)) rfl
theorem fl_X9_63 : Cond.fieldLink RX9 63 "RankBoardModel" "boutWon" "[I" ∈ tA := tg (lt_4 (List.mem_of_getElem? (i := 15) rfl)) rfl
theorem fl_X9_173 : Cond.fieldLink RX9 173 "RankBoardModel" "lacking" "I" ∈ tA := tg (lt_4 (List.mem_of_getElem? (i := 16) rfl)) rfl
theorem fl_X9_194 : Cond.fieldLink RX9 194 "RankBoardModel" "cost" "I" ∈ tA := tg (lt_4 (List.mem_of_getElem? (i := 17) rfl)) rfl
theorem fl_X9_197 : Cond.fieldLink RX9 197 "RankBoardModel" "satOut" "I" ∈ tA := tg (lt_4 (List.mem_of_getElem? (i := 18) rfl)) rfl
theorem fl_X9_66 : Cond.fieldLink RX9 66 "RankBoardModel" "present" "[I" ∈ tA := tg (lt_4 (List.mem_of_getElem? (i := 19) rfl)) rfl
theorem fl_X9_182 : Cond.fieldLink RX9 182 "RankBoardModel" "presentMany" "I" ∈ tA := tg (lt_4 (List.mem_of_getElem? (i := 20) rfl)) rfl
theorem fl_X9_69 : Cond.fieldLink RX9 69 "RankBoardModel" "pairCost" "[I" ∈ tA := tg (lt_4 (List.mem_of_getElem? (i := 21) rfl)) rfl
theorem fl_X9_73 : Cond.fieldLink RX9 73 "RankBoardModel" "leastOf" "[I" ∈ tA := tg (lt_4 (List.mem_of_getElem? (i := 22) rfl)) rfl
theorem fl_X9_207 : Cond.fieldLink RX9 207 "RankBoardModel" "lines" "I" ∈ tA := tg (lt_4 (List.mem_of_getElem? (i := 23) rfl)) rfl
theorem fl_X9_76 : Cond.fieldLink RX9 76 "RankBoardModel" "lineLow" "[I" ∈ tA := tg (lt_4 (List.mem_of_getElem? (i := 24) rfl)) rfl
theorem fl_X9_79 : Cond.fieldLink RX9 79 "RankBoardModel" "lineHigh" "[I" ∈ tA := tg (lt_4 (List.mem_of_getElem? (i := 25) rfl)) rfl
theorem fl_X9_82 : Cond.fieldLink RX9 82 "RankBoardModel" "lineUp" "[I" ∈ tA := tg (lt_4 (List.mem_of_getElem? (i := 26) rfl)) rfl
theorem fl_X9_226 : Cond.fieldLink RX9 226 "RankBoardModel" "writtenTimes" "I" ∈ tA := tg (lt_4 (List.mem_of_getElem? (i := 27) rfl)) rfl
theorem fl_X9_136 : Cond.fieldLink RX9 136 "RankBoardModel" "isWritten" "Z" ∈ tA := tg (lt_4 (List.mem_of_getElem? (i := 28) rfl)) rfl
theorem fl_X9_223 : Cond.fieldLink RX9 223 "RankBoardModel" "writtenLines" "I" ∈ tA := tg (lt_4 (List.mem_of_getElem? (i := 29) rfl)) rfl
theorem fl_X9_85 : Cond.fieldLink RX9 85 "RankBoardModel" "whyOf" "[I" ∈ tA := tg (lt_4 (List.mem_of_getElem? (i := 30) rfl)) rfl
theorem fl_X9_88 : Cond.fieldLink RX9 88 "RankBoardModel" "oldRung" "[I" ∈ tA := tg (lt_4 (List.mem_of_getElem? (i := 31) rfl)) rfl
theorem fl_X9_91 : Cond.fieldLink RX9 91 "RankBoardModel" "writtenRung" "[I" ∈ tA := tg (lt_4 (List.mem_of_getElem? (i := 32) rfl)) rfl
theorem fl_X9_94 : Cond.fieldLink RX9 94 "RankBoardModel" "besideRung" "[I" ∈ tA := tg (lt_4 (List.mem_of_getElem? (i := 33) rfl)) rfl
theorem fl_X9_97 : Cond.fieldLink RX9 97 "RankBoardModel" "aimOf" "[I" ∈ tA := tg (lt_4 (List.mem_of_getElem? (i := 34) rfl)) rfl
theorem fl_X9_100 : Cond.fieldLink RX9 100 "RankBoardModel" "ordered" "[I" ∈ tA := tg (lt_4 (List.mem_of_getElem? (i := 35) rfl)) rfl
theorem fl_X9_103 : Cond.fieldLink RX9 103 "RankBoardModel" "scores" "[I" ∈ tA := tg (lt_4 (List.mem_of_getElem? (i := 36) rfl)) rfl
theorem fl_X9_106 : Cond.fieldLink RX9 106 "RankBoardModel" "boardBefore" "[I" ∈ tA := tg (lt_4 (List.mem_of_getElem? (i := 37) rfl)) rfl
theorem fl_X9_176 : Cond.fieldLink RX9 176 "RankBoardModel" "hadPlayOff" "Z" ∈ tA := tg (lt_4 (List.mem_of_getElem? (i := 38) rfl)) rfl
theorem fl_X9_216 : Cond.fieldLink RX9 216 "RankBoardModel" "playMany" "I" ∈ tA := tg (lt_4 (List.mem_of_getElem? (i := 39) rfl)) rfl
theorem fl_X9_109 : Cond.fieldLink RX9 109 "RankBoardModel" "play" "[I" ∈ tA := tg (lt_4 (List.mem_of_getElem? (i := 40) rfl)) rfl
theorem fl_X9_116 : Cond.fieldLink RX9 116 "RankBoardModel" "champion" "I" ∈ tA := tg (lt_4 (List.mem_of_getElem? (i := 41) rfl)) rfl
theorem ml_L_155 : Cond.methodLink RL 155 yX9_finding ∈ tA := tg (lt_4 (List.mem_of_getElem? (i := 147) rfl)) rfl
theorem im_X9_finding : Cond.instanceMethod yX9_finding ∈ tA := tg (lt_4 (List.mem_of_getElem? (i := 148) rfl)) rfl
theorem se_X9_finding : Cond.selects RX9 yX9_finding yX9_finding ∈ tA := tg (lt_4 (List.mem_of_getElem? (i := 149) rfl)) rfl
theorem co_X9_finding : Cond.code yX9_finding cX9_finding 1 (some .int) ∈ tA := tg (lt_4 (List.mem_of_getElem? (i := 150) rfl)) rfl
theorem ml_L_159 : Cond.methodLink RL 159 yX9_findings ∈ tA := tg (lt_4 (List.mem_of_getElem? (i := 151) rfl)) rfl
theorem im_X9_findings : Cond.instanceMethod yX9_findings ∈ tA := tg (lt_4 (List.mem_of_getElem? (i := 152) rfl)) rfl
theorem se_X9_findings : Cond.selects RX9 yX9_findings yX9_findings ∈ tA := tg (lt_4 (List.mem_of_getElem? (i := 153) rfl)) rfl
theorem co_X9_findings : Cond.code yX9_findings cX9_findings 2 (some .int) ∈ tA := tg (lt_4 (List.mem_of_getElem? (i := 154) rfl)) rfl
theorem ml_X9_122 : Cond.methodLink RX9 122 yX9_in ∈ tA := tg (lt_4 (List.mem_of_getElem? (i := 155) rfl)) rfl
theorem st_X9_in : Cond.static yX9_in ∈ tA := tg (lt_4 (List.mem_of_getElem? (i := 156) rfl)) rfl
theorem co_X9_in : Cond.code yX9_in cX9_in 3 (some .boolean) ∈ tA := tg (lt_4 (List.mem_of_getElem? (i := 157) rfl)) rfl
theorem ml_L_17 : Cond.methodLink RL 17 yX9_wrestler ∈ tA := tg (lt_4 (List.mem_of_getElem? (i := 158) rfl)) rfl
theorem im_X9_wrestler : Cond.instanceMethod yX9_wrestler ∈ tA := tg (lt_4 (List.mem_of_getElem? (i := 159) rfl)) rfl
theorem se_X9_wrestler : Cond.selects RX9 yX9_wrestler yX9_wrestler ∈ tA := tg (lt_4 (List.mem_of_getElem? (i := 160) rfl)) rfl
theorem co_X9_wrestler : Cond.code yX9_wrestler cX9_wrestler 4 (some .int) ∈ tA := tg (lt_4 (List.mem_of_getElem? (i := 161) rfl)) rfl
theorem ml_L_22 : Cond.methodLink RL 22 yX9_leave ∈ tA := tg (lt_4 (List.mem_of_getElem? (i := 162) rfl)) rfl
theorem im_X9_leave : Cond.instanceMethod yX9_leave ∈ tA := tg (lt_4 (List.mem_of_getElem? (i := 163) rfl)) rfl
theorem se_X9_leave : Cond.selects RX9 yX9_leave yX9_leave ∈ tA := tg (lt_4 (List.mem_of_getElem? (i := 164) rfl)) rfl
theorem co_X9_leave : Cond.code yX9_leave cX9_leave 4 (some .int) ∈ tA := tg (lt_4 (List.mem_of_getElem? (i := 165) rfl)) rfl
theorem ml_X9_139 : Cond.methodLink RX9 139 yX9_isOne ∈ tA := tg (lt_4 (List.mem_of_getElem? (i := 166) rfl)) rfl
theorem im_X9_isOne : Cond.instanceMethod yX9_isOne ∈ tA := tg (lt_4 (List.mem_of_getElem? (i := 168) rfl)) rfl
theorem co_X9_isOne : Cond.code yX9_isOne cX9_isOne 2 (some .boolean) ∈ tA := tg (lt_4 (List.mem_of_getElem? (i := 169) rfl)) rfl
theorem ml_X9_143 : Cond.methodLink RX9 143 yX9_meets ∈ tA := tg (lt_4 (List.mem_of_getElem? (i := 170) rfl)) rfl
theorem im_X9_meets : Cond.instanceMethod yX9_meets ∈ tA := tg (lt_4 (List.mem_of_getElem? (i := 172) rfl)) rfl
theorem co_X9_meets : Cond.code yX9_meets cX9_meets 2 (some .int) ∈ tA := tg (lt_4 (List.mem_of_getElem? (i := 173) rfl)) rfl
theorem ml_X9_147 : Cond.methodLink RX9 147 yX9_rungOf ∈ tA := tg (lt_4 (List.mem_of_getElem? (i := 174) rfl)) rfl
theorem im_X9_rungOf : Cond.instanceMethod yX9_rungOf ∈ tA := tg (lt_4 (List.mem_of_getElem? (i := 176) rfl)) rfl
theorem co_X9_rungOf : Cond.code yX9_rungOf cX9_rungOf 3 (some .int) ∈ tA := tg (lt_4 (List.mem_of_getElem? (i := 177) rfl)) rfl
theorem ml_L_27 : Cond.methodLink RL 27 yX9_told ∈ tA := tg (lt_4 (List.mem_of_getElem? (i := 178) rfl)) rfl
theorem im_X9_told : Cond.instanceMethod yX9_told ∈ tA := tg (lt_4 (List.mem_of_getElem? (i := 179) rfl)) rfl
theorem se_X9_told : Cond.selects RX9 yX9_told yX9_told ∈ tA := tg (lt_4 (List.mem_of_getElem? (i := 180) rfl)) rfl
theorem co_X9_told : Cond.code yX9_told cX9_told 4 (some .int) ∈ tA := tg (lt_4 (List.mem_of_getElem? (i := 181) rfl)) rfl
theorem ml_X9_150 : Cond.methodLink RX9 150 yX9_need ∈ tA := tg (lt_4 (List.mem_of_getElem? (i := 182) rfl)) rfl
theorem im_X9_need : Cond.instanceMethod yX9_need ∈ tA := tg (lt_4 (List.mem_of_getElem? (i := 184) rfl)) rfl
theorem co_X9_need : Cond.code yX9_need cX9_need 3 (some .int) ∈ tA := tg (lt_4 (List.mem_of_getElem? (i := 185) rfl)) rfl
theorem ml_X9_154 : Cond.methodLink RX9 154 yX9_toldOf ∈ tA := tg (lt_4 (List.mem_of_getElem? (i := 186) rfl)) rfl
theorem im_X9_toldOf : Cond.instanceMethod yX9_toldOf ∈ tA := tg (lt_4 (List.mem_of_getElem? (i := 188) rfl)) rfl
theorem co_X9_toldOf : Cond.code yX9_toldOf cX9_toldOf 3 (some .int) ∈ tA := tg (lt_4 (List.mem_of_getElem? (i := 189) rfl)) rfl
theorem ml_L_31 : Cond.methodLink RL 31 yX9_is ∈ tA := tg (lt_4 (List.mem_of_getElem? (i := 190) rfl)) rfl
theorem im_X9_is : Cond.instanceMethod yX9_is ∈ tA := tg (lt_4 (List.mem_of_getElem? (i := 191) rfl)) rfl
theorem se_X9_is : Cond.selects RX9 yX9_is yX9_is ∈ tA := tg (lt_4 (List.mem_of_getElem? (i := 192) rfl)) rfl
theorem co_X9_is : Cond.code yX9_is cX9_is 4 (some .int) ∈ tA := tg (lt_4 (List.mem_of_getElem? (i := 193) rfl)) rfl
theorem ml_L_35 : Cond.methodLink RL 35 yX9_on ∈ tA := tg (lt_4 (List.mem_of_getElem? (i := 194) rfl)) rfl
theorem im_X9_on : Cond.instanceMethod yX9_on ∈ tA := tg (lt_4 (List.mem_of_getElem? (i := 195) rfl)) rfl
theorem se_X9_on : Cond.selects RX9 yX9_on yX9_on ∈ tA := tg (lt_4 (List.mem_of_getElem? (i := 196) rfl)) rfl
theorem co_X9_on : Cond.code yX9_on cX9_on 2 (some .int) ∈ tA := tg (lt_4 (List.mem_of_getElem? (i := 197) rfl)) rfl
theorem ml_L_39 : Cond.methodLink RL 39 yX9_mark ∈ tA := tg (lt_4 (List.mem_of_getElem? (i := 198) rfl)) rfl
theorem im_X9_mark : Cond.instanceMethod yX9_mark ∈ tA := tg (lt_4 (List.mem_of_getElem? (i := 199) rfl)) rfl
theorem se_X9_mark : Cond.selects RX9 yX9_mark yX9_mark ∈ tA := tg (lt_4 (List.mem_of_getElem? (i := 200) rfl)) rfl
theorem co_X9_mark : Cond.code yX9_mark cX9_mark 4 (some .int) ∈ tA := tg (lt_4 (List.mem_of_getElem? (i := 201) rfl)) rfl
theorem ml_L_43 : Cond.methodLink RL 43 yX9_mean ∈ tA := tg (lt_4 (List.mem_of_getElem? (i := 202) rfl)) rfl
theorem im_X9_mean : Cond.instanceMethod yX9_mean ∈ tA := tg (lt_4 (List.mem_of_getElem? (i := 203) rfl)) rfl
theorem se_X9_mean : Cond.selects RX9 yX9_mean yX9_mean ∈ tA := tg (lt_4 (List.mem_of_getElem? (i := 204) rfl)) rfl
theorem co_X9_mean : Cond.code yX9_mean cX9_mean 6 (some .int) ∈ tA := tg (lt_4 (List.mem_of_getElem? (i := 205) rfl)) rfl
theorem ml_L_47 : Cond.methodLink RL 47 yX9_sheet ∈ tA := tg (lt_4 (List.mem_of_getElem? (i := 206) rfl)) rfl
theorem im_X9_sheet : Cond.instanceMethod yX9_sheet ∈ tA := tg (lt_4 (List.mem_of_getElem? (i := 207) rfl)) rfl
theorem se_X9_sheet : Cond.selects RX9 yX9_sheet yX9_sheet ∈ tA := tg (lt_4 (List.mem_of_getElem? (i := 208) rfl)) rfl
theorem co_X9_sheet : Cond.code yX9_sheet cX9_sheet 4 (some .int) ∈ tA := tg (lt_4 (List.mem_of_getElem? (i := 209) rfl)) rfl
theorem ml_X9_158 : Cond.methodLink RX9 158 yX9_isSheet ∈ tA := tg (lt_4 (List.mem_of_getElem? (i := 210) rfl)) rfl
theorem st_X9_isSheet : Cond.static yX9_isSheet ∈ tA := tg (lt_4 (List.mem_of_getElem? (i := 211) rfl)) rfl
theorem co_X9_isSheet : Cond.code yX9_isSheet cX9_isSheet 1 (some .boolean) ∈ tA := tg (lt_4 (List.mem_of_getElem? (i := 212) rfl)) rfl
theorem ml_L_51 : Cond.methodLink RL 51 yX9_lay ∈ tA := tg (lt_4 (List.mem_of_getElem? (i := 213) rfl)) rfl
theorem im_X9_lay : Cond.instanceMethod yX9_lay ∈ tA := tg (lt_4 (List.mem_of_getElem? (i := 214) rfl)) rfl
theorem se_X9_lay : Cond.selects RX9 yX9_lay yX9_lay ∈ tA := tg (lt_4 (List.mem_of_getElem? (i := 215) rfl)) rfl
theorem co_X9_lay : Cond.code yX9_lay cX9_lay 5 (some .int) ∈ tA := tg (lt_4 (List.mem_of_getElem? (i := 216) rfl)) rfl
theorem ml_L_55 : Cond.methodLink RL 55 yX9_tear ∈ tA := tg (lt_4 (List.mem_of_getElem? (i := 217) rfl)) rfl
theorem im_X9_tear : Cond.instanceMethod yX9_tear ∈ tA := tg (lt_4 (List.mem_of_getElem? (i := 218) rfl)) rfl
theorem se_X9_tear : Cond.selects RX9 yX9_tear yX9_tear ∈ tA := tg (lt_4 (List.mem_of_getElem? (i := 219) rfl)) rfl
theorem co_X9_tear : Cond.code yX9_tear cX9_tear 2 (some .int) ∈ tA := tg (lt_4 (List.mem_of_getElem? (i := 220) rfl)) rfl
theorem ml_L_60 : Cond.methodLink RL 60 yX9_copy ∈ tA := tg (lt_4 (List.mem_of_getElem? (i := 221) rfl)) rfl
theorem im_X9_copy : Cond.instanceMethod yX9_copy ∈ tA := tg (lt_4 (List.mem_of_getElem? (i := 222) rfl)) rfl
theorem se_X9_copy : Cond.selects RX9 yX9_copy yX9_copy ∈ tA := tg (lt_4 (List.mem_of_getElem? (i := 223) rfl)) rfl
theorem co_X9_copy : Cond.code yX9_copy cX9_copy 7 (some .int) ∈ tA := tg (lt_4 (List.mem_of_getElem? (i := 224) rfl)) rfl
theorem ml_L_64 : Cond.methodLink RL 64 yX9_prices ∈ tA := tg (lt_4 (List.mem_of_getElem? (i := 225) rfl)) rfl
theorem im_X9_prices : Cond.instanceMethod yX9_prices ∈ tA := tg (lt_4 (List.mem_of_getElem? (i := 226) rfl)) rfl
theorem se_X9_prices : Cond.selects RX9 yX9_prices yX9_prices ∈ tA := tg (lt_4 (List.mem_of_getElem? (i := 227) rfl)) rfl
theorem co_X9_prices : Cond.code yX9_prices cX9_prices 3 (some .int) ∈ tA := tg (lt_4 (List.mem_of_getElem? (i := 228) rfl)) rfl
theorem ml_L_68 : Cond.methodLink RL 68 yX9_price ∈ tA := tg (lt_4 (List.mem_of_getElem? (i := 229) rfl)) rfl
theorem im_X9_price : Cond.instanceMethod yX9_price ∈ tA := tg (lt_4 (List.mem_of_getElem? (i := 230) rfl)) rfl
theorem se_X9_price : Cond.selects RX9 yX9_price yX9_price ∈ tA := tg (lt_4 (List.mem_of_getElem? (i := 231) rfl)) rfl
theorem co_X9_price : Cond.code yX9_price cX9_price 2 (some .int) ∈ tA := tg (lt_4 (List.mem_of_getElem? (i := 232) rfl)) rfl
theorem ml_X9_161 : Cond.methodLink RX9 161 yX9_priceOf ∈ tA := tg (lt_4 (List.mem_of_getElem? (i := 233) rfl)) rfl
theorem im_X9_priceOf : Cond.instanceMethod yX9_priceOf ∈ tA := tg (lt_4 (List.mem_of_getElem? (i := 235) rfl)) rfl
theorem co_X9_priceOf : Cond.code yX9_priceOf cX9_priceOf 4 (some .int) ∈ tA := tg (lt_4 (List.mem_of_getElem? (i := 236) rfl)) rfl
theorem ml_L_72 : Cond.methodLink RL 72 yX9_meet ∈ tA := tg (lt_4 (List.mem_of_getElem? (i := 237) rfl)) rfl
theorem im_X9_meet : Cond.instanceMethod yX9_meet ∈ tA := tg (lt_4 (List.mem_of_getElem? (i := 238) rfl)) rfl
theorem se_X9_meet : Cond.selects RX9 yX9_meet yX9_meet ∈ tA := tg (lt_4 (List.mem_of_getElem? (i := 239) rfl)) rfl
theorem co_X9_meet : Cond.code yX9_meet cX9_meet 3 (some .int) ∈ tA := tg (lt_5 (List.mem_of_getElem? (i := 0) rfl)) rfl
theorem ml_L_77 : Cond.methodLink RL 77 yX9_absent ∈ tA := tg (lt_5 (List.mem_of_getElem? (i := 1) rfl)) rfl
theorem im_X9_absent : Cond.instanceMethod yX9_absent ∈ tA := tg (lt_5 (List.mem_of_getElem? (i := 2) rfl)) rfl
theorem se_X9_absent : Cond.selects RX9 yX9_absent yX9_absent ∈ tA := tg (lt_5 (List.mem_of_getElem? (i := 3) rfl)) rfl
theorem co_X9_absent : Cond.code yX9_absent cX9_absent 5 (some .int) ∈ tA := tg (lt_5 (List.mem_of_getElem? (i := 4) rfl)) rfl
theorem ml_L_81 : Cond.methodLink RL 81 yX9_barred ∈ tA := tg (lt_5 (List.mem_of_getElem? (i := 5) rfl)) rfl
theorem im_X9_barred : Cond.instanceMethod yX9_barred ∈ tA := tg (lt_5 (List.mem_of_getElem? (i := 6) rfl)) rfl
theorem se_X9_barred : Cond.selects RX9 yX9_barred yX9_barred ∈ tA := tg (lt_5 (List.mem_of_getElem? (i := 7) rfl)) rfl
theorem co_X9_barred : Cond.code yX9_barred cX9_barred 3 (some .int) ∈ tA := tg (lt_5 (List.mem_of_getElem? (i := 8) rfl)) rfl
theorem ml_X9_179 : Cond.methodLink RX9 179 yX9_barredBits ∈ tA := tg (lt_5 (List.mem_of_getElem? (i := 9) rfl)) rfl
theorem im_X9_barredBits : Cond.instanceMethod yX9_barredBits ∈ tA := tg (lt_5 (List.mem_of_getElem? (i := 11) rfl)) rfl
theorem co_X9_barredBits : Cond.code yX9_barredBits cX9_barredBits 6 (some .int) ∈ tA := tg (lt_5 (List.mem_of_getElem? (i := 12) rfl)) rfl
theorem ml_L_86 : Cond.methodLink RL 86 yX9_draw ∈ tA := tg (lt_5 (List.mem_of_getElem? (i := 13) rfl)) rfl
theorem im_X9_draw : Cond.instanceMethod yX9_draw ∈ tA := tg (lt_5 (List.mem_of_getElem? (i := 14) rfl)) rfl
theorem se_X9_draw : Cond.selects RX9 yX9_draw yX9_draw ∈ tA := tg (lt_5 (List.mem_of_getElem? (i := 15) rfl)) rfl
theorem co_X9_draw : Cond.code yX9_draw cX9_draw 8 (some .int) ∈ tA := tg (lt_5 (List.mem_of_getElem? (i := 16) rfl)) rfl
theorem ml_X9_188 : Cond.methodLink RX9 188 yX9_layPairs ∈ tA := tg (lt_5 (List.mem_of_getElem? (i := 17) rfl)) rfl
theorem im_X9_layPairs : Cond.instanceMethod yX9_layPairs ∈ tA := tg (lt_5 (List.mem_of_getElem? (i := 19) rfl)) rfl
theorem co_X9_layPairs : Cond.code yX9_layPairs cX9_layPairs 7 none ∈ tA := tg (lt_5 (List.mem_of_getElem? (i := 20) rfl)) rfl
theorem ml_X9_191 : Cond.methodLink RX9 191 yX9_layLeast ∈ tA := tg (lt_5 (List.mem_of_getElem? (i := 21) rfl)) rfl
theorem im_X9_layLeast : Cond.instanceMethod yX9_layLeast ∈ tA := tg (lt_5 (List.mem_of_getElem? (i := 23) rfl)) rfl
theorem co_X9_layLeast : Cond.code yX9_layLeast cX9_layLeast 7 none ∈ tA := tg (lt_5 (List.mem_of_getElem? (i := 24) rfl)) rfl
theorem ml_X9_185 : Cond.methodLink RX9 185 yX9_first ∈ tA := tg (lt_5 (List.mem_of_getElem? (i := 25) rfl)) rfl
theorem im_X9_first : Cond.instanceMethod yX9_first ∈ tA := tg (lt_5 (List.mem_of_getElem? (i := 27) rfl)) rfl
theorem co_X9_first : Cond.code yX9_first cX9_first 3 (some .int) ∈ tA := tg (lt_5 (List.mem_of_getElem? (i := 28) rfl)) rfl
theorem ml_X9_200 : Cond.methodLink RX9 200 yX9_addBout ∈ tA := tg (lt_5 (List.mem_of_getElem? (i := 29) rfl)) rfl
theorem im_X9_addBout : Cond.instanceMethod yX9_addBout ∈ tA := tg (lt_5 (List.mem_of_getElem? (i := 31) rfl)) rfl
theorem co_X9_addBout : Cond.code yX9_addBout cX9_addBout 3 none ∈ tA := tg (lt_5 (List.mem_of_getElem? (i := 32) rfl)) rfl
theorem ml_L_90 : Cond.methodLink RL 90 yX9_cost ∈ tA := tg (lt_5 (List.mem_of_getElem? (i := 33) rfl)) rfl
theorem im_X9_cost : Cond.instanceMethod yX9_cost ∈ tA := tg (lt_5 (List.mem_of_getElem? (i := 34) rfl)) rfl
theorem se_X9_cost : Cond.selects RX9 yX9_cost yX9_cost ∈ tA := tg (lt_5 (List.mem_of_getElem? (i := 35) rfl)) rfl
theorem co_X9_cost : Cond.code yX9_cost cX9_cost 1 (some .int) ∈ tA := tg (lt_5 (List.mem_of_getElem? (i := 36) rfl)) rfl
theorem ml_L_94 : Cond.methodLink RL 94 yX9_result ∈ tA := tg (lt_5 (List.mem_of_getElem? (i := 37) rfl)) rfl
theorem im_X9_result : Cond.instanceMethod yX9_result ∈ tA := tg (lt_5 (List.mem_of_getElem? (i := 38) rfl)) rfl
theorem se_X9_result : Cond.selects RX9 yX9_result yX9_result ∈ tA := tg (lt_5 (List.mem_of_getElem? (i := 39) rfl)) rfl
theorem co_X9_result : Cond.code yX9_result cX9_result 3 (some .int) ∈ tA := tg (lt_5 (List.mem_of_getElem? (i := 40) rfl)) rfl
theorem ml_L_98 : Cond.methodLink RL 98 yX9_bout ∈ tA := tg (lt_5 (List.mem_of_getElem? (i := 41) rfl)) rfl
theorem im_X9_bout : Cond.instanceMethod yX9_bout ∈ tA := tg (lt_5 (List.mem_of_getElem? (i := 42) rfl)) rfl
theorem se_X9_bout : Cond.selects RX9 yX9_bout yX9_bout ∈ tA := tg (lt_5 (List.mem_of_getElem? (i := 43) rfl)) rfl
theorem co_X9_bout : Cond.code yX9_bout cX9_bout 3 (some .int) ∈ tA := tg (lt_5 (List.mem_of_getElem? (i := 44) rfl)) rfl
theorem ml_X9_204 : Cond.methodLink RX9 204 yX9_boutTold ∈ tA := tg (lt_5 (List.mem_of_getElem? (i := 45) rfl)) rfl
theorem im_X9_boutTold : Cond.instanceMethod yX9_boutTold ∈ tA := tg (lt_5 (List.mem_of_getElem? (i := 47) rfl)) rfl
theorem co_X9_boutTold : Cond.code yX9_boutTold cX9_boutTold 3 (some .int) ∈ tA := tg (lt_5 (List.mem_of_getElem? (i := 48) rfl)) rfl
theorem ml_L_102 : Cond.methodLink RL 102 yX9_sat ∈ tA := tg (lt_5 (List.mem_of_getElem? (i := 49) rfl)) rfl
theorem im_X9_sat : Cond.instanceMethod yX9_sat ∈ tA := tg (lt_5 (List.mem_of_getElem? (i := 50) rfl)) rfl
theorem se_X9_sat : Cond.selects RX9 yX9_sat yX9_sat ∈ tA := tg (lt_5 (List.mem_of_getElem? (i := 51) rfl)) rfl
theorem co_X9_sat : Cond.code yX9_sat cX9_sat 1 (some .int) ∈ tA := tg (lt_5 (List.mem_of_getElem? (i := 52) rfl)) rfl
theorem ml_L_106 : Cond.methodLink RL 106 yX9_line ∈ tA := tg (lt_5 (List.mem_of_getElem? (i := 53) rfl)) rfl
theorem im_X9_line : Cond.instanceMethod yX9_line ∈ tA := tg (lt_5 (List.mem_of_getElem? (i := 54) rfl)) rfl
theorem se_X9_line : Cond.selects RX9 yX9_line yX9_line ∈ tA := tg (lt_5 (List.mem_of_getElem? (i := 55) rfl)) rfl
theorem co_X9_line : Cond.code yX9_line cX9_line 4 (some .int) ∈ tA := tg (lt_5 (List.mem_of_getElem? (i := 56) rfl)) rfl
theorem ml_L_110 : Cond.methodLink RL 110 yX9_anew ∈ tA := tg (lt_5 (List.mem_of_getElem? (i := 57) rfl)) rfl
theorem im_X9_anew : Cond.instanceMethod yX9_anew ∈ tA := tg (lt_5 (List.mem_of_getElem? (i := 58) rfl)) rfl
theorem se_X9_anew : Cond.selects RX9 yX9_anew yX9_anew ∈ tA := tg (lt_5 (List.mem_of_getElem? (i := 59) rfl)) rfl
theorem co_X9_anew : Cond.code yX9_anew cX9_anew 4 (some .int) ∈ tA := tg (lt_5 (List.mem_of_getElem? (i := 60) rfl)) rfl
theorem ml_X9_210 : Cond.methodLink RX9 210 yX9_lineFor ∈ tA := tg (lt_5 (List.mem_of_getElem? (i := 61) rfl)) rfl
theorem im_X9_lineFor : Cond.instanceMethod yX9_lineFor ∈ tA := tg (lt_5 (List.mem_of_getElem? (i := 63) rfl)) rfl
theorem co_X9_lineFor : Cond.code yX9_lineFor cX9_lineFor 4 (some .int) ∈ tA := tg (lt_5 (List.mem_of_getElem? (i := 64) rfl)) rfl
theorem ml_X9_219 : Cond.methodLink RX9 219 yX9_order ∈ tA := tg (lt_5 (List.mem_of_getElem? (i := 65) rfl)) rfl
theorem im_X9_order : Cond.instanceMethod yX9_order ∈ tA := tg (lt_5 (List.mem_of_getElem? (i := 67) rfl)) rfl
theorem co_X9_order : Cond.code yX9_order cX9_order 8 none ∈ tA := tg (lt_5 (List.mem_of_getElem? (i := 68) rfl)) rfl
theorem ml_X9_213 : Cond.methodLink RX9 213 yX9_goesUp ∈ tA := tg (lt_5 (List.mem_of_getElem? (i := 69) rfl)) rfl
theorem im_X9_goesUp : Cond.instanceMethod yX9_goesUp ∈ tA := tg (lt_5 (List.mem_of_getElem? (i := 71) rfl)) rfl
theorem co_X9_goesUp : Cond.code yX9_goesUp cX9_goesUp 4 (some .int) ∈ tA := tg (lt_5 (List.mem_of_getElem? (i := 72) rfl)) rfl
theorem ml_L_114 : Cond.methodLink RL 114 yX9_why ∈ tA := tg (lt_5 (List.mem_of_getElem? (i := 73) rfl)) rfl
theorem im_X9_why : Cond.instanceMethod yX9_why ∈ tA := tg (lt_5 (List.mem_of_getElem? (i := 74) rfl)) rfl
theorem se_X9_why : Cond.selects RX9 yX9_why yX9_why ∈ tA := tg (lt_5 (List.mem_of_getElem? (i := 75) rfl)) rfl
theorem co_X9_why : Cond.code yX9_why cX9_why 3 (some .int) ∈ tA := tg (lt_5 (List.mem_of_getElem? (i := 76) rfl)) rfl
theorem ml_L_118 : Cond.methodLink RL 118 yX9_passed ∈ tA := tg (lt_5 (List.mem_of_getElem? (i := 77) rfl)) rfl
theorem im_X9_passed : Cond.instanceMethod yX9_passed ∈ tA := tg (lt_5 (List.mem_of_getElem? (i := 78) rfl)) rfl
theorem se_X9_passed : Cond.selects RX9 yX9_passed yX9_passed ∈ tA := tg (lt_5 (List.mem_of_getElem? (i := 79) rfl)) rfl
theorem co_X9_passed : Cond.code yX9_passed cX9_passed 4 (some .int) ∈ tA := tg (lt_5 (List.mem_of_getElem? (i := 80) rfl)) rfl
theorem ml_L_122 : Cond.methodLink RL 122 yX9_beside ∈ tA := tg (lt_5 (List.mem_of_getElem? (i := 81) rfl)) rfl
theorem im_X9_beside : Cond.instanceMethod yX9_beside ∈ tA := tg (lt_5 (List.mem_of_getElem? (i := 82) rfl)) rfl
theorem se_X9_beside : Cond.selects RX9 yX9_beside yX9_beside ∈ tA := tg (lt_5 (List.mem_of_getElem? (i := 83) rfl)) rfl
theorem co_X9_beside : Cond.code yX9_beside cX9_beside 4 (some .int) ∈ tA := tg (lt_5 (List.mem_of_getElem? (i := 84) rfl)) rfl
theorem ml_L_126 : Cond.methodLink RL 126 yX9_rungBeside ∈ tA := tg (lt_5 (List.mem_of_getElem? (i := 85) rfl)) rfl
theorem im_X9_rungBeside : Cond.instanceMethod yX9_rungBeside ∈ tA := tg (lt_5 (List.mem_of_getElem? (i := 86) rfl)) rfl
theorem se_X9_rungBeside : Cond.selects RX9 yX9_rungBeside yX9_rungBeside ∈ tA := tg (lt_5 (List.mem_of_getElem? (i := 87) rfl)) rfl
theorem co_X9_rungBeside : Cond.code yX9_rungBeside cX9_rungBeside 3 (some .int) ∈ tA := tg (lt_5 (List.mem_of_getElem? (i := 88) rfl)) rfl
theorem ml_L_130 : Cond.methodLink RL 130 yX9_leaders ∈ tA := tg (lt_5 (List.mem_of_getElem? (i := 89) rfl)) rfl
theorem im_X9_leaders : Cond.instanceMethod yX9_leaders ∈ tA := tg (lt_5 (List.mem_of_getElem? (i := 90) rfl)) rfl
theorem se_X9_leaders : Cond.selects RX9 yX9_leaders yX9_leaders ∈ tA := tg (lt_5 (List.mem_of_getElem? (i := 91) rfl)) rfl
theorem co_X9_leaders : Cond.code yX9_leaders cX9_leaders 1 (some .int) ∈ tA := tg (lt_5 (List.mem_of_getElem? (i := 92) rfl)) rfl
theorem ml_X9_229 : Cond.methodLink RX9 229 yX9_leaderBits ∈ tA := tg (lt_5 (List.mem_of_getElem? (i := 93) rfl)) rfl
theorem im_X9_leaderBits : Cond.instanceMethod yX9_leaderBits ∈ tA := tg (lt_5 (List.mem_of_getElem? (i := 95) rfl)) rfl
theorem co_X9_leaderBits : Cond.code yX9_leaderBits cX9_leaderBits 4 (some .int) ∈ tA := tg (lt_5 (List.mem_of_getElem? (i := 96) rfl)) rfl
theorem ml_L_134 : Cond.methodLink RL 134 yX9_playOff ∈ tA := tg (lt_5 (List.mem_of_getElem? (i := 97) rfl)) rfl
theorem im_X9_playOff : Cond.instanceMethod yX9_playOff ∈ tA := tg (lt_5 (List.mem_of_getElem? (i := 98) rfl)) rfl
theorem se_X9_playOff : Cond.selects RX9 yX9_playOff yX9_playOff ∈ tA := tg (lt_5 (List.mem_of_getElem? (i := 99) rfl)) rfl
theorem co_X9_playOff : Cond.code yX9_playOff cX9_playOff 3 (some .int) ∈ tA := tg (lt_5 (List.mem_of_getElem? (i := 100) rfl)) rfl
theorem ml_X9_233 : Cond.methodLink RX9 233 yX9_left ∈ tA := tg (lt_5 (List.mem_of_getElem? (i := 101) rfl)) rfl
theorem im_X9_left : Cond.instanceMethod yX9_left ∈ tA := tg (lt_5 (List.mem_of_getElem? (i := 103) rfl)) rfl
theorem co_X9_left : Cond.code yX9_left cX9_left 1 (some .int) ∈ tA := tg (lt_5 (List.mem_of_getElem? (i := 104) rfl)) rfl
theorem ml_L_139 : Cond.methodLink RL 139 yX9_meets_ ∈ tA := tg (lt_5 (List.mem_of_getElem? (i := 105) rfl)) rfl
theorem im_X9_meets_ : Cond.instanceMethod yX9_meets_ ∈ tA := tg (lt_5 (List.mem_of_getElem? (i := 106) rfl)) rfl
theorem se_X9_meets_ : Cond.selects RX9 yX9_meets_ yX9_meets_ ∈ tA := tg (lt_5 (List.mem_of_getElem? (i := 107) rfl)) rfl
theorem co_X9_meets_ : Cond.code yX9_meets_ cX9_meets_ 2 (some .int) ∈ tA := tg (lt_5 (List.mem_of_getElem? (i := 108) rfl)) rfl
theorem ml_L_143 : Cond.methodLink RL 143 yX9_wins ∈ tA := tg (lt_5 (List.mem_of_getElem? (i := 109) rfl)) rfl
theorem im_X9_wins : Cond.instanceMethod yX9_wins ∈ tA := tg (lt_5 (List.mem_of_getElem? (i := 110) rfl)) rfl
theorem se_X9_wins : Cond.selects RX9 yX9_wins yX9_wins ∈ tA := tg (lt_5 (List.mem_of_getElem? (i := 111) rfl)) rfl
theorem co_X9_wins : Cond.code yX9_wins cX9_wins 4 (some .int) ∈ tA := tg (lt_5 (List.mem_of_getElem? (i := 112) rfl)) rfl
theorem ml_L_147 : Cond.methodLink RL 147 yX9_champion ∈ tA := tg (lt_5 (List.mem_of_getElem? (i := 113) rfl)) rfl
theorem im_X9_champion : Cond.instanceMethod yX9_champion ∈ tA := tg (lt_5 (List.mem_of_getElem? (i := 114) rfl)) rfl
theorem se_X9_champion : Cond.selects RX9 yX9_champion yX9_champion ∈ tA := tg (lt_5 (List.mem_of_getElem? (i := 115) rfl)) rfl
theorem co_X9_champion : Cond.code yX9_champion cX9_champion 1 (some .int) ∈ tA := tg (lt_5 (List.mem_of_getElem? (i := 116) rfl)) rfl
theorem ml_L_151 : Cond.methodLink RL 151 yX9_count ∈ tA := tg (lt_5 (List.mem_of_getElem? (i := 117) rfl)) rfl
theorem im_X9_count : Cond.instanceMethod yX9_count ∈ tA := tg (lt_5 (List.mem_of_getElem? (i := 118) rfl)) rfl
theorem se_X9_count : Cond.selects RX9 yX9_count yX9_count ∈ tA := tg (lt_5 (List.mem_of_getElem? (i := 119) rfl)) rfl
theorem co_X9_count : Cond.code yX9_count cX9_count 2 (some .int) ∈ tA := tg (lt_5 (List.mem_of_getElem? (i := 120) rfl)) rfl
theorem ml_L_164 : Cond.methodLink RL 164 yX9_digest ∈ tA := tg (lt_5 (List.mem_of_getElem? (i := 121) rfl)) rfl
theorem im_X9_digest : Cond.instanceMethod yX9_digest ∈ tA := tg (lt_5 (List.mem_of_getElem? (i := 122) rfl)) rfl
theorem se_X9_digest : Cond.selects RX9 yX9_digest yX9_digest ∈ tA := tg (lt_5 (List.mem_of_getElem? (i := 123) rfl)) rfl
theorem co_X9_digest : Cond.code yX9_digest cX9_digest 5 (some .long) ∈ tA := tg (lt_5 (List.mem_of_getElem? (i := 124) rfl)) rfl
theorem k_X9_236 : (Jvm.Cond.constantLong RX9 (236 : Nat) (17 : Int64)) ∈ tA := tg (lt_5 (List.mem_of_getElem? (i := 125) rfl)) rfl
theorem k_X9_238 : (Jvm.Cond.constantLong RX9 (238 : Nat) (31 : Int64)) ∈ tA := tg (lt_5 (List.mem_of_getElem? (i := 126) rfl)) rfl
theorem ml_X9_240 : Cond.methodLink RX9 240 yX9_count ∈ tA := tg (lt_5 (List.mem_of_getElem? (i := 127) rfl)) rfl
theorem se_X8_refusalOf : Cond.selects RX8 yX8_refusalOf yX8_refusalOf ∈ tA := tg (List.mem_append_left _ (List.mem_of_getElem? (i := 0) rfl)) rfl
theorem se_X8_barsBetween : Cond.selects RX8 yX8_barsBetween yX8_barsBetween ∈ tA := tg (List.mem_append_left _ (List.mem_of_getElem? (i := 1) rfl)) rfl
theorem se_X8_gatherThosePresent : Cond.selects RX8 yX8_gatherThosePresent yX8_gatherThosePresent ∈ tA := tg (List.mem_append_left _ (List.mem_of_getElem? (i := 2) rfl)) rfl
theorem se_X8_setCharges : Cond.selects RX8 yX8_setCharges yX8_setCharges ∈ tA := tg (List.mem_append_left _ (List.mem_of_getElem? (i := 3) rfl)) rfl
theorem se_X8_chargeFor : Cond.selects RX8 yX8_chargeFor yX8_chargeFor ∈ tA := tg (List.mem_append_left _ (List.mem_of_getElem? (i := 4) rfl)) rfl
theorem se_X1_bitOf : Cond.selects RX1 yX1_bitOf yX1_bitOf ∈ tA := tg (List.mem_append_left _ (List.mem_of_getElem? (i := 5) rfl)) rfl
theorem se_X1_uppermostMate : Cond.selects RX1 yX1_uppermostMate yX1_uppermostMate ∈ tA := tg (List.mem_append_left _ (List.mem_of_getElem? (i := 6) rfl)) rfl
theorem se_X8_enterDay : Cond.selects RX8 yX8_enterDay yX8_enterDay ∈ tA := tg (List.mem_append_left _ (List.mem_of_getElem? (i := 7) rfl)) rfl
theorem se_X8_moveByCustom : Cond.selects RX8 yX8_moveByCustom yX8_moveByCustom ∈ tA := tg (List.mem_append_left _ (List.mem_of_getElem? (i := 8) rfl)) rfl
theorem se_X8_scoreWithout : Cond.selects RX8 yX8_scoreWithout yX8_scoreWithout ∈ tA := tg (List.mem_append_left _ (List.mem_of_getElem? (i := 9) rfl)) rfl
theorem se_X8_crownIfAlone : Cond.selects RX8 yX8_crownIfAlone yX8_crownIfAlone ∈ tA := tg (List.mem_append_left _ (List.mem_of_getElem? (i := 10) rfl)) rfl
theorem se_X8_tally : Cond.selects RX8 yX8_tally yX8_tally ∈ tA := tg (List.mem_append_left _ (List.mem_of_getElem? (i := 11) rfl)) rfl
theorem se_X8_withWrestler : Cond.selects RX8 yX8_withWrestler yX8_withWrestler ∈ tA := tg (List.mem_append_left _ (List.mem_of_getElem? (i := 12) rfl)) rfl
theorem se_X8_withSheet : Cond.selects RX8 yX8_withSheet yX8_withSheet ∈ tA := tg (List.mem_append_left _ (List.mem_of_getElem? (i := 13) rfl)) rfl
theorem se_X9_isOne : Cond.selects RX9 yX9_isOne yX9_isOne ∈ tA := tg (List.mem_append_left _ (List.mem_of_getElem? (i := 14) rfl)) rfl
theorem se_X9_meets : Cond.selects RX9 yX9_meets yX9_meets ∈ tA := tg (List.mem_append_left _ (List.mem_of_getElem? (i := 15) rfl)) rfl
theorem se_X9_rungOf : Cond.selects RX9 yX9_rungOf yX9_rungOf ∈ tA := tg (List.mem_append_left _ (List.mem_of_getElem? (i := 16) rfl)) rfl
theorem se_X9_need : Cond.selects RX9 yX9_need yX9_need ∈ tA := tg (List.mem_append_left _ (List.mem_of_getElem? (i := 17) rfl)) rfl
theorem se_X9_toldOf : Cond.selects RX9 yX9_toldOf yX9_toldOf ∈ tA := tg (List.mem_append_left _ (List.mem_of_getElem? (i := 18) rfl)) rfl
theorem se_X9_priceOf : Cond.selects RX9 yX9_priceOf yX9_priceOf ∈ tA := tg (List.mem_append_left _ (List.mem_of_getElem? (i := 19) rfl)) rfl
theorem se_X9_barredBits : Cond.selects RX9 yX9_barredBits yX9_barredBits ∈ tA := tg (List.mem_append_left _ (List.mem_of_getElem? (i := 20) rfl)) rfl
theorem se_X9_layPairs : Cond.selects RX9 yX9_layPairs yX9_layPairs ∈ tA := tg (List.mem_append_left _ (List.mem_of_getElem? (i := 21) rfl)) rfl
theorem se_X9_layLeast : Cond.selects RX9 yX9_layLeast yX9_layLeast ∈ tA := tg (List.mem_append_left _ (List.mem_of_getElem? (i := 22) rfl)) rfl
theorem se_X9_first : Cond.selects RX9 yX9_first yX9_first ∈ tA := tg (List.mem_append_left _ (List.mem_of_getElem? (i := 23) rfl)) rfl
theorem se_X9_addBout : Cond.selects RX9 yX9_addBout yX9_addBout ∈ tA := tg (List.mem_append_left _ (List.mem_of_getElem? (i := 24) rfl)) rfl
theorem se_X9_boutTold : Cond.selects RX9 yX9_boutTold yX9_boutTold ∈ tA := tg (List.mem_append_left _ (List.mem_of_getElem? (i := 25) rfl)) rfl
theorem se_X9_lineFor : Cond.selects RX9 yX9_lineFor yX9_lineFor ∈ tA := tg (List.mem_append_left _ (List.mem_of_getElem? (i := 26) rfl)) rfl
theorem se_X9_order : Cond.selects RX9 yX9_order yX9_order ∈ tA := tg (List.mem_append_left _ (List.mem_of_getElem? (i := 27) rfl)) rfl
theorem se_X9_goesUp : Cond.selects RX9 yX9_goesUp yX9_goesUp ∈ tA := tg (List.mem_append_left _ (List.mem_of_getElem? (i := 28) rfl)) rfl
theorem se_X9_leaderBits : Cond.selects RX9 yX9_leaderBits yX9_leaderBits ∈ tA := tg (List.mem_append_left _ (List.mem_of_getElem? (i := 29) rfl)) rfl
theorem se_X9_left : Cond.selects RX9 yX9_left yX9_left ∈ tA := tg (List.mem_append_left _ (List.mem_of_getElem? (i := 30) rfl)) rfl
theorem inX0 : ∀ w ∈ u_ws RX0 TX0 4, w ∈ tA := fun w h => tg ((by decide +kernel : ∀ w ∈ u_ws RX0 TX0 4, w ∈ lw_tbl) w h) ((by decide +kernel : ∀ w ∈ u_ws RX0 TX0 4, goodWord w = true) w h)
theorem inX1 : ∀ w ∈ u_ws RX1 TX1 5, w ∈ tA := fun w h => tg ((by decide +kernel : ∀ w ∈ u_ws RX1 TX1 5, w ∈ lw_tbl) w h) ((by decide +kernel : ∀ w ∈ u_ws RX1 TX1 5, goodWord w = true) w h)
theorem inX2 : ∀ w ∈ u_ws RX2 TX2 2, w ∈ tA := fun w h => tg ((by decide +kernel : ∀ w ∈ u_ws RX2 TX2 2, w ∈ lw_tbl) w h) ((by decide +kernel : ∀ w ∈ u_ws RX2 TX2 2, goodWord w = true) w h)
theorem inX3 : ∀ w ∈ u_ws RX3 TX3 13, w ∈ tA := fun w h => tg ((by decide +kernel : ∀ w ∈ u_ws RX3 TX3 13, w ∈ lw_tbl) w h) ((by decide +kernel : ∀ w ∈ u_ws RX3 TX3 13, goodWord w = true) w h)
theorem inX4 : ∀ w ∈ u_ws RX4 TX4 3, w ∈ tA := fun w h => tg ((by decide +kernel : ∀ w ∈ u_ws RX4 TX4 3, w ∈ lw_tbl) w h) ((by decide +kernel : ∀ w ∈ u_ws RX4 TX4 3, goodWord w = true) w h)
theorem inX5 : ∀ w ∈ u_ws RX5 TX5 4, w ∈ tA := fun w h => tg ((by decide +kernel : ∀ w ∈ u_ws RX5 TX5 4, w ∈ lw_tbl) w h) ((by decide +kernel : ∀ w ∈ u_ws RX5 TX5 4, goodWord w = true) w h)
theorem inX6 : ∀ w ∈ u_ws RX6 TX6 12, w ∈ tA := fun w h => tg ((by decide +kernel : ∀ w ∈ u_ws RX6 TX6 12, w ∈ lw_tbl) w h) ((by decide +kernel : ∀ w ∈ u_ws RX6 TX6 12, goodWord w = true) w h)
theorem inX7 : ∀ w ∈ u_ws RX7 TX7 11, w ∈ tA := fun w h => tg ((by decide +kernel : ∀ w ∈ u_ws RX7 TX7 11, w ∈ lw_tbl) w h) ((by decide +kernel : ∀ w ∈ u_ws RX7 TX7 11, goodWord w = true) w h)
theorem inX8 : ∀ w ∈ u_ws RX8 TX8 8, w ∈ tA := fun w h => tg ((by decide +kernel : ∀ w ∈ u_ws RX8 TX8 8, w ∈ lw_tbl) w h) ((by decide +kernel : ∀ w ∈ u_ws RX8 TX8 8, goodWord w = true) w h)
theorem inX9 : ∀ w ∈ u_ws RX9 TX9 52, w ∈ tA := fun w h => tg ((by decide +kernel : ∀ w ∈ u_ws RX9 TX9 52, w ∈ lw_tbl) w h) ((by decide +kernel : ∀ w ∈ u_ws RX9 TX9 52, goodWord w = true) w h)
end
section
theorem dX0_init_0 : decode cX0_init 0 = .ok (.aload_n 0, 1) := by decide +kernel
theorem dX0_init_1 : decode cX0_init 1 = .ok (.invokespecial 3, 3) := by decide +kernel
theorem dX0_init_4 : decode cX0_init 4 = .ok (.aload_n 0, 1) := by decide +kernel
theorem dX0_init_5 : decode cX0_init 5 = .ok (.bipush 12, 2) := by decide +kernel
theorem dX0_init_7 : decode cX0_init 7 = .ok (.newarray .int, 2) := by decide +kernel
theorem dX0_init_9 : decode cX0_init 9 = .ok (.putfield 9, 3) := by decide +kernel
theorem dX0_init_12 : decode cX0_init 12 = .ok (.aload_n 0, 1) := by decide +kernel
theorem dX0_init_13 : decode cX0_init 13 = .ok (.bipush 12, 2) := by decide +kernel
theorem dX0_init_15 : decode cX0_init 15 = .ok (.newarray .int, 2) := by decide +kernel
theorem dX0_init_17 : decode cX0_init 17 = .ok (.putfield 15, 3) := by decide +kernel
theorem dX0_init_20 : decode cX0_init 20 = .ok (.aload_n 0, 1) := by decide +kernel
theorem dX0_init_21 : decode cX0_init 21 = .ok (.bipush 12, 2) := by decide +kernel
theorem dX0_init_23 : decode cX0_init 23 = .ok (.newarray .int, 2) := by decide +kernel
theorem dX0_init_25 : decode cX0_init 25 = .ok (.putfield 18, 3) := by decide +kernel
theorem dX0_init_28 : decode cX0_init 28 = .ok (.return_, 1) := by decide +kernel
theorem dX0_add_0 : decode cX0_add 0 = .ok (.aload_n 0, 1) := by decide +kernel
theorem dX0_add_1 : decode cX0_add 1 = .ok (.getfield 9, 3) := by decide +kernel
theorem dX0_add_4 : decode cX0_add 4 = .ok (.aload_n 0, 1) := by decide +kernel
theorem dX0_add_5 : decode cX0_add 5 = .ok (.getfield 21, 3) := by decide +kernel
theorem dX0_add_8 : decode cX0_add 8 = .ok (.iload_n 1, 1) := by decide +kernel
theorem dX0_add_9 : decode cX0_add 9 = .ok (.iastore, 1) := by decide +kernel
theorem dX0_add_10 : decode cX0_add 10 = .ok (.aload_n 0, 1) := by decide +kernel
theorem dX0_add_11 : decode cX0_add 11 = .ok (.getfield 15, 3) := by decide +kernel
theorem dX0_add_14 : decode cX0_add 14 = .ok (.aload_n 0, 1) := by decide +kernel
theorem dX0_add_15 : decode cX0_add 15 = .ok (.getfield 21, 3) := by decide +kernel
theorem dX0_add_18 : decode cX0_add 18 = .ok (.iload_n 2, 1) := by decide +kernel
theorem dX0_add_19 : decode cX0_add 19 = .ok (.iastore, 1) := by decide +kernel
theorem dX0_add_20 : decode cX0_add 20 = .ok (.aload_n 0, 1) := by decide +kernel
theorem dX0_add_21 : decode cX0_add 21 = .ok (.getfield 18, 3) := by decide +kernel
theorem dX0_add_24 : decode cX0_add 24 = .ok (.aload_n 0, 1) := by decide +kernel
theorem dX0_add_25 : decode cX0_add 25 = .ok (.getfield 21, 3) := by decide +kernel
theorem dX0_add_28 : decode cX0_add 28 = .ok (.iload_n 3, 1) := by decide +kernel
theorem dX0_add_29 : decode cX0_add 29 = .ok (.iastore, 1) := by decide +kernel
theorem dX0_add_30 : decode cX0_add 30 = .ok (.aload_n 0, 1) := by decide +kernel
theorem dX0_add_31 : decode cX0_add 31 = .ok (.dup, 1) := by decide +kernel
theorem dX0_add_32 : decode cX0_add 32 = .ok (.getfield 21, 3) := by decide +kernel
theorem dX0_add_35 : decode cX0_add 35 = .ok (.iconst 1, 1) := by decide +kernel
theorem dX0_add_36 : decode cX0_add 36 = .ok (.iadd, 1) := by decide +kernel
theorem dX0_add_37 : decode cX0_add 37 = .ok (.putfield 21, 3) := by decide +kernel
theorem dX0_add_40 : decode cX0_add 40 = .ok (.aload_n 0, 1) := by decide +kernel
theorem dX0_add_41 : decode cX0_add 41 = .ok (.getfield 21, 3) := by decide +kernel
theorem dX0_add_44 : decode cX0_add 44 = .ok (.iconst 1, 1) := by decide +kernel
theorem dX0_add_45 : decode cX0_add 45 = .ok (.isub, 1) := by decide +kernel
theorem dX0_add_46 : decode cX0_add 46 = .ok (.ireturn, 1) := by decide +kernel
theorem dX0_lineFor_0 : decode cX0_lineFor 0 = .ok (.iconst 0, 1) := by decide +kernel
theorem dX0_lineFor_1 : decode cX0_lineFor 1 = .ok (.istore_n 3, 1) := by decide +kernel
theorem dX0_lineFor_2 : decode cX0_lineFor 2 = .ok (.iload_n 3, 1) := by decide +kernel
theorem dX0_lineFor_3 : decode cX0_lineFor 3 = .ok (.iload_n 2, 1) := by decide +kernel
theorem dX0_lineFor_4 : decode cX0_lineFor 4 = .ok (.if_icmp .ge 31, 3) := by decide +kernel
theorem dX0_lineFor_7 : decode cX0_lineFor 7 = .ok (.aload_n 0, 1) := by decide +kernel
theorem dX0_lineFor_8 : decode cX0_lineFor 8 = .ok (.getfield 9, 3) := by decide +kernel
theorem dX0_lineFor_11 : decode cX0_lineFor 11 = .ok (.iload_n 3, 1) := by decide +kernel
theorem dX0_lineFor_12 : decode cX0_lineFor 12 = .ok (.iaload, 1) := by decide +kernel
theorem dX0_lineFor_13 : decode cX0_lineFor 13 = .ok (.iload_n 1, 1) := by decide +kernel
theorem dX0_lineFor_14 : decode cX0_lineFor 14 = .ok (.if_icmp .gt 15, 3) := by decide +kernel
theorem dX0_lineFor_17 : decode cX0_lineFor 17 = .ok (.iload_n 1, 1) := by decide +kernel
theorem dX0_lineFor_18 : decode cX0_lineFor 18 = .ok (.aload_n 0, 1) := by decide +kernel
theorem dX0_lineFor_19 : decode cX0_lineFor 19 = .ok (.getfield 15, 3) := by decide +kernel
theorem dX0_lineFor_22 : decode cX0_lineFor 22 = .ok (.iload_n 3, 1) := by decide +kernel
theorem dX0_lineFor_23 : decode cX0_lineFor 23 = .ok (.iaload, 1) := by decide +kernel
theorem dX0_lineFor_24 : decode cX0_lineFor 24 = .ok (.if_icmp .gt 5, 3) := by decide +kernel
theorem dX0_lineFor_27 : decode cX0_lineFor 27 = .ok (.iload_n 3, 1) := by decide +kernel
theorem dX0_lineFor_28 : decode cX0_lineFor 28 = .ok (.ireturn, 1) := by decide +kernel
theorem dX0_lineFor_29 : decode cX0_lineFor 29 = .ok (.iinc 3 1, 3) := by decide +kernel
theorem dX0_lineFor_32 : decode cX0_lineFor 32 = .ok (.goto (-30), 3) := by decide +kernel
theorem dX0_lineFor_35 : decode cX0_lineFor 35 = .ok (.bipush (-9), 2) := by decide +kernel
theorem dX0_lineFor_37 : decode cX0_lineFor 37 = .ok (.ireturn, 1) := by decide +kernel
theorem dX0_steps_0 : decode cX0_steps 0 = .ok (.iload_n 1, 1) := by decide +kernel
theorem dX0_steps_1 : decode cX0_steps 1 = .ok (.bipush (-9), 2) := by decide +kernel
theorem dX0_steps_3 : decode cX0_steps 3 = .ok (.if_icmp .ne 5, 3) := by decide +kernel
theorem dX0_steps_6 : decode cX0_steps 6 = .ok (.iconst 0, 1) := by decide +kernel
theorem dX0_steps_7 : decode cX0_steps 7 = .ok (.ireturn, 1) := by decide +kernel
theorem dX0_steps_8 : decode cX0_steps 8 = .ok (.aload_n 0, 1) := by decide +kernel
theorem dX0_steps_9 : decode cX0_steps 9 = .ok (.getfield 18, 3) := by decide +kernel
theorem dX0_steps_12 : decode cX0_steps 12 = .ok (.iload_n 1, 1) := by decide +kernel
theorem dX0_steps_13 : decode cX0_steps 13 = .ok (.iaload, 1) := by decide +kernel
theorem dX0_steps_14 : decode cX0_steps 14 = .ok (.istore_n 3, 1) := by decide +kernel
theorem dX0_steps_15 : decode cX0_steps 15 = .ok (.iload_n 2, 1) := by decide +kernel
theorem dX0_steps_16 : decode cX0_steps 16 = .ok (.iconst 1, 1) := by decide +kernel
theorem dX0_steps_17 : decode cX0_steps 17 = .ok (.if_icmp .ne 9, 3) := by decide +kernel
theorem dX0_steps_20 : decode cX0_steps 20 = .ok (.iload_n 3, 1) := by decide +kernel
theorem dX0_steps_21 : decode cX0_steps 21 = .ok (.iconst (-1), 1) := by decide +kernel
theorem dX0_steps_22 : decode cX0_steps 22 = .ok (.invokestatic 25, 3) := by decide +kernel
theorem dX0_steps_25 : decode cX0_steps 25 = .ok (.ireturn, 1) := by decide +kernel
theorem dX0_steps_26 : decode cX0_steps 26 = .ok (.iload_n 2, 1) := by decide +kernel
theorem dX0_steps_27 : decode cX0_steps 27 = .ok (.iconst 2, 1) := by decide +kernel
theorem dX0_steps_28 : decode cX0_steps 28 = .ok (.if_icmp .ne 13, 3) := by decide +kernel
theorem dX0_steps_31 : decode cX0_steps 31 = .ok (.iload_n 3, 1) := by decide +kernel
theorem dX0_steps_32 : decode cX0_steps 32 = .ok (.ifCond .le 9, 3) := by decide +kernel
theorem dX0_steps_35 : decode cX0_steps 35 = .ok (.iconst 2, 1) := by decide +kernel
theorem dX0_steps_36 : decode cX0_steps 36 = .ok (.iload_n 3, 1) := by decide +kernel
theorem dX0_steps_37 : decode cX0_steps 37 = .ok (.imul, 1) := by decide +kernel
theorem dX0_steps_38 : decode cX0_steps 38 = .ok (.goto 4, 3) := by decide +kernel
theorem dX0_steps_41 : decode cX0_steps 41 = .ok (.iload_n 3, 1) := by decide +kernel
theorem dX0_steps_42 : decode cX0_steps 42 = .ok (.ireturn, 1) := by decide +kernel
theorem dX1_init_0 : decode cX1_init 0 = .ok (.aload_n 0, 1) := by decide +kernel
theorem dX1_init_1 : decode cX1_init 1 = .ok (.invokespecial 3, 3) := by decide +kernel
theorem dX1_init_4 : decode cX1_init 4 = .ok (.aload_n 0, 1) := by decide +kernel
theorem dX1_init_5 : decode cX1_init 5 = .ok (.bipush 16, 2) := by decide +kernel
theorem dX1_init_7 : decode cX1_init 7 = .ok (.newarray .int, 2) := by decide +kernel
theorem dX1_init_9 : decode cX1_init 9 = .ok (.putfield 9, 3) := by decide +kernel
theorem dX1_init_12 : decode cX1_init 12 = .ok (.aload_n 0, 1) := by decide +kernel
theorem dX1_init_13 : decode cX1_init 13 = .ok (.bipush 16, 2) := by decide +kernel
theorem dX1_init_15 : decode cX1_init 15 = .ok (.newarray .int, 2) := by decide +kernel
theorem dX1_init_17 : decode cX1_init 17 = .ok (.putfield 15, 3) := by decide +kernel
theorem dX1_init_20 : decode cX1_init 20 = .ok (.aload_n 0, 1) := by decide +kernel
theorem dX1_init_21 : decode cX1_init 21 = .ok (.bipush 16, 2) := by decide +kernel
theorem dX1_init_23 : decode cX1_init 23 = .ok (.bipush 16, 2) := by decide +kernel
theorem dX1_init_25 : decode cX1_init 25 = .ok (.multianewarray 18 2, 4) := by decide +kernel
theorem dX1_init_29 : decode cX1_init 29 = .ok (.putfield 20, 3) := by decide +kernel
theorem dX1_init_32 : decode cX1_init 32 = .ok (.aload_n 0, 1) := by decide +kernel
theorem dX1_init_33 : decode cX1_init 33 = .ok (.sipush 8192, 3) := by decide +kernel
theorem dX1_init_36 : decode cX1_init 36 = .ok (.newarray .int, 2) := by decide +kernel
theorem dX1_init_38 : decode cX1_init 38 = .ok (.putfield 23, 3) := by decide +kernel
theorem dX1_init_41 : decode cX1_init 41 = .ok (.return_, 1) := by decide +kernel
theorem dX1_solve_0 : decode cX1_solve 0 = .ok (.aload_n 0, 1) := by decide +kernel
theorem dX1_solve_1 : decode cX1_solve 1 = .ok (.getfield 23, 3) := by decide +kernel
theorem dX1_solve_4 : decode cX1_solve 4 = .ok (.iconst 0, 1) := by decide +kernel
theorem dX1_solve_5 : decode cX1_solve 5 = .ok (.sipush 8192, 3) := by decide +kernel
theorem dX1_solve_8 : decode cX1_solve 8 = .ok (.iconst 1, 1) := by decide +kernel
theorem dX1_solve_9 : decode cX1_solve 9 = .ok (.aload_n 0, 1) := by decide +kernel
theorem dX1_solve_10 : decode cX1_solve 10 = .ok (.getfield 26, 3) := by decide +kernel
theorem dX1_solve_13 : decode cX1_solve 13 = .ok (.ishl, 1) := by decide +kernel
theorem dX1_solve_14 : decode cX1_solve 14 = .ok (.invokestatic 30, 3) := by decide +kernel
theorem dX1_solve_17 : decode cX1_solve 17 = .ok (.iconst 0, 1) := by decide +kernel
theorem dX1_solve_18 : decode cX1_solve 18 = .ok (.invokestatic 36, 3) := by decide +kernel
theorem dX1_solve_21 : decode cX1_solve 21 = .ok (.aload_n 0, 1) := by decide +kernel
theorem dX1_solve_22 : decode cX1_solve 22 = .ok (.getfield 15, 3) := by decide +kernel
theorem dX1_solve_25 : decode cX1_solve 25 = .ok (.bipush (-9), 2) := by decide +kernel
theorem dX1_solve_27 : decode cX1_solve 27 = .ok (.invokestatic 42, 3) := by decide +kernel
theorem dX1_solve_30 : decode cX1_solve 30 = .ok (.iconst 1, 1) := by decide +kernel
theorem dX1_solve_31 : decode cX1_solve 31 = .ok (.aload_n 0, 1) := by decide +kernel
theorem dX1_solve_32 : decode cX1_solve 32 = .ok (.getfield 26, 3) := by decide +kernel
theorem dX1_solve_35 : decode cX1_solve 35 = .ok (.ishl, 1) := by decide +kernel
theorem dX1_solve_36 : decode cX1_solve 36 = .ok (.iconst 1, 1) := by decide +kernel
theorem dX1_solve_37 : decode cX1_solve 37 = .ok (.isub, 1) := by decide +kernel
theorem dX1_solve_38 : decode cX1_solve 38 = .ok (.istore_n 1, 1) := by decide +kernel
theorem dX1_solve_39 : decode cX1_solve 39 = .ok (.aload_n 0, 1) := by decide +kernel
theorem dX1_solve_40 : decode cX1_solve 40 = .ok (.iconst 0, 1) := by decide +kernel
theorem dX1_solve_41 : decode cX1_solve 41 = .ok (.iload_n 1, 1) := by decide +kernel
theorem dX1_solve_42 : decode cX1_solve 42 = .ok (.invokestatic 45, 3) := by decide +kernel
theorem dX1_solve_45 : decode cX1_solve 45 = .ok (.istore_n 2, 1) := by decide +kernel
theorem dX1_solve_46 : decode cX1_solve 46 = .ok (.iload_n 2, 1) := by decide +kernel
theorem dX1_solve_47 : decode cX1_solve 47 = .ok (.istore_n 3, 1) := by decide +kernel
theorem dX1_solve_48 : decode cX1_solve 48 = .ok (.iconst 0, 1) := by decide +kernel
theorem dX1_solve_49 : decode cX1_solve 49 = .ok (.istore 4, 2) := by decide +kernel
theorem dX1_solve_51 : decode cX1_solve 51 = .ok (.iload 4, 2) := by decide +kernel
theorem dX1_solve_53 : decode cX1_solve 53 = .ok (.aload_n 0, 1) := by decide +kernel
theorem dX1_solve_54 : decode cX1_solve 54 = .ok (.getfield 26, 3) := by decide +kernel
theorem dX1_solve_57 : decode cX1_solve 57 = .ok (.if_icmp .ge 95, 3) := by decide +kernel
theorem dX1_solve_60 : decode cX1_solve 60 = .ok (.iload_n 1, 1) := by decide +kernel
theorem dX1_solve_61 : decode cX1_solve 61 = .ok (.aload_n 0, 1) := by decide +kernel
theorem dX1_solve_62 : decode cX1_solve 62 = .ok (.iload 4, 2) := by decide +kernel
theorem dX1_solve_64 : decode cX1_solve 64 = .ok (.invokevirtual 49, 3) := by decide +kernel
theorem dX1_solve_67 : decode cX1_solve 67 = .ok (.iand, 1) := by decide +kernel
theorem dX1_solve_68 : decode cX1_solve 68 = .ok (.ifCond .eq 78, 3) := by decide +kernel
theorem dX1_solve_71 : decode cX1_solve 71 = .ok (.iload_n 1, 1) := by decide +kernel
theorem dX1_solve_72 : decode cX1_solve 72 = .ok (.aload_n 0, 1) := by decide +kernel
theorem dX1_solve_73 : decode cX1_solve 73 = .ok (.iload 4, 2) := by decide +kernel
theorem dX1_solve_75 : decode cX1_solve 75 = .ok (.invokevirtual 49, 3) := by decide +kernel
theorem dX1_solve_78 : decode cX1_solve 78 = .ok (.ixor, 1) := by decide +kernel
theorem dX1_solve_79 : decode cX1_solve 79 = .ok (.istore_n 1, 1) := by decide +kernel
theorem dX1_solve_80 : decode cX1_solve 80 = .ok (.aload_n 0, 1) := by decide +kernel
theorem dX1_solve_81 : decode cX1_solve 81 = .ok (.iload 4, 2) := by decide +kernel
theorem dX1_solve_83 : decode cX1_solve 83 = .ok (.iload_n 1, 1) := by decide +kernel
theorem dX1_solve_84 : decode cX1_solve 84 = .ok (.iload_n 3, 1) := by decide +kernel
theorem dX1_solve_85 : decode cX1_solve 85 = .ok (.invokevirtual 53, 3) := by decide +kernel
theorem dX1_solve_88 : decode cX1_solve 88 = .ok (.istore 5, 2) := by decide +kernel
theorem dX1_solve_90 : decode cX1_solve 90 = .ok (.iload 5, 2) := by decide +kernel
theorem dX1_solve_92 : decode cX1_solve 92 = .ok (.bipush (-9), 2) := by decide +kernel
theorem dX1_solve_94 : decode cX1_solve 94 = .ok (.if_icmp .ne 12, 3) := by decide +kernel
theorem dX1_solve_97 : decode cX1_solve 97 = .ok (.iinc 3 (-10000), 6) := by decide +kernel
theorem dX1_solve_103 : decode cX1_solve 103 = .ok (.goto 43, 3) := by decide +kernel
theorem dX1_solve_106 : decode cX1_solve 106 = .ok (.iload_n 1, 1) := by decide +kernel
theorem dX1_solve_107 : decode cX1_solve 107 = .ok (.aload_n 0, 1) := by decide +kernel
theorem dX1_solve_108 : decode cX1_solve 108 = .ok (.iload 5, 2) := by decide +kernel
theorem dX1_solve_110 : decode cX1_solve 110 = .ok (.invokevirtual 49, 3) := by decide +kernel
theorem dX1_solve_113 : decode cX1_solve 113 = .ok (.ixor, 1) := by decide +kernel
theorem dX1_solve_114 : decode cX1_solve 114 = .ok (.istore_n 1, 1) := by decide +kernel
theorem dX1_solve_115 : decode cX1_solve 115 = .ok (.iload_n 3, 1) := by decide +kernel
theorem dX1_solve_116 : decode cX1_solve 116 = .ok (.aload_n 0, 1) := by decide +kernel
theorem dX1_solve_117 : decode cX1_solve 117 = .ok (.getfield 20, 3) := by decide +kernel
theorem dX1_solve_120 : decode cX1_solve 120 = .ok (.iload 4, 2) := by decide +kernel
theorem dX1_solve_122 : decode cX1_solve 122 = .ok (.aaload, 1) := by decide +kernel
theorem dX1_solve_123 : decode cX1_solve 123 = .ok (.iload 5, 2) := by decide +kernel
theorem dX1_solve_125 : decode cX1_solve 125 = .ok (.iaload, 1) := by decide +kernel
theorem dX1_solve_126 : decode cX1_solve 126 = .ok (.isub, 1) := by decide +kernel
theorem dX1_solve_127 : decode cX1_solve 127 = .ok (.istore_n 3, 1) := by decide +kernel
theorem dX1_solve_128 : decode cX1_solve 128 = .ok (.aload_n 0, 1) := by decide +kernel
theorem dX1_solve_129 : decode cX1_solve 129 = .ok (.getfield 15, 3) := by decide +kernel
theorem dX1_solve_132 : decode cX1_solve 132 = .ok (.iload 4, 2) := by decide +kernel
theorem dX1_solve_134 : decode cX1_solve 134 = .ok (.iload 5, 2) := by decide +kernel
theorem dX1_solve_136 : decode cX1_solve 136 = .ok (.iastore, 1) := by decide +kernel
theorem dX1_solve_137 : decode cX1_solve 137 = .ok (.aload_n 0, 1) := by decide +kernel
theorem dX1_solve_138 : decode cX1_solve 138 = .ok (.getfield 15, 3) := by decide +kernel
theorem dX1_solve_141 : decode cX1_solve 141 = .ok (.iload 5, 2) := by decide +kernel
theorem dX1_solve_143 : decode cX1_solve 143 = .ok (.iload 4, 2) := by decide +kernel
theorem dX1_solve_145 : decode cX1_solve 145 = .ok (.iastore, 1) := by decide +kernel
theorem dX1_solve_146 : decode cX1_solve 146 = .ok (.iinc 4 1, 3) := by decide +kernel
theorem dX1_solve_149 : decode cX1_solve 149 = .ok (.goto (-98), 3) := by decide +kernel
theorem dX1_solve_152 : decode cX1_solve 152 = .ok (.iload_n 2, 1) := by decide +kernel
theorem dX1_solve_153 : decode cX1_solve 153 = .ok (.ireturn, 1) := by decide +kernel
theorem dX1_bitOf_0 : decode cX1_bitOf 0 = .ok (.iconst 1, 1) := by decide +kernel
theorem dX1_bitOf_1 : decode cX1_bitOf 1 = .ok (.aload_n 0, 1) := by decide +kernel
theorem dX1_bitOf_2 : decode cX1_bitOf 2 = .ok (.getfield 26, 3) := by decide +kernel
theorem dX1_bitOf_5 : decode cX1_bitOf 5 = .ok (.iconst 1, 1) := by decide +kernel
theorem dX1_bitOf_6 : decode cX1_bitOf 6 = .ok (.isub, 1) := by decide +kernel
theorem dX1_bitOf_7 : decode cX1_bitOf 7 = .ok (.iload_n 1, 1) := by decide +kernel
theorem dX1_bitOf_8 : decode cX1_bitOf 8 = .ok (.isub, 1) := by decide +kernel
theorem dX1_bitOf_9 : decode cX1_bitOf 9 = .ok (.ishl, 1) := by decide +kernel
theorem dX1_bitOf_10 : decode cX1_bitOf 10 = .ok (.ireturn, 1) := by decide +kernel
theorem dX1_uppermostMate_0 : decode cX1_uppermostMate 0 = .ok (.iload_n 1, 1) := by decide +kernel
theorem dX1_uppermostMate_1 : decode cX1_uppermostMate 1 = .ok (.iconst 1, 1) := by decide +kernel
theorem dX1_uppermostMate_2 : decode cX1_uppermostMate 2 = .ok (.iadd, 1) := by decide +kernel
theorem dX1_uppermostMate_3 : decode cX1_uppermostMate 3 = .ok (.istore 4, 2) := by decide +kernel
theorem dX1_uppermostMate_5 : decode cX1_uppermostMate 5 = .ok (.iload 4, 2) := by decide +kernel
theorem dX1_uppermostMate_7 : decode cX1_uppermostMate 7 = .ok (.aload_n 0, 1) := by decide +kernel
theorem dX1_uppermostMate_8 : decode cX1_uppermostMate 8 = .ok (.getfield 26, 3) := by decide +kernel
theorem dX1_uppermostMate_11 : decode cX1_uppermostMate 11 = .ok (.if_icmp .ge 68, 3) := by decide +kernel
theorem dX1_uppermostMate_14 : decode cX1_uppermostMate 14 = .ok (.aload_n 0, 1) := by decide +kernel
theorem dX1_uppermostMate_15 : decode cX1_uppermostMate 15 = .ok (.getfield 20, 3) := by decide +kernel
theorem dX1_uppermostMate_18 : decode cX1_uppermostMate 18 = .ok (.iload_n 1, 1) := by decide +kernel
theorem dX1_uppermostMate_19 : decode cX1_uppermostMate 19 = .ok (.aaload, 1) := by decide +kernel
theorem dX1_uppermostMate_20 : decode cX1_uppermostMate 20 = .ok (.iload 4, 2) := by decide +kernel
theorem dX1_uppermostMate_22 : decode cX1_uppermostMate 22 = .ok (.iaload, 1) := by decide +kernel
theorem dX1_uppermostMate_23 : decode cX1_uppermostMate 23 = .ok (.istore 5, 2) := by decide +kernel
theorem dX1_uppermostMate_25 : decode cX1_uppermostMate 25 = .ok (.iload_n 2, 1) := by decide +kernel
theorem dX1_uppermostMate_26 : decode cX1_uppermostMate 26 = .ok (.aload_n 0, 1) := by decide +kernel
theorem dX1_uppermostMate_27 : decode cX1_uppermostMate 27 = .ok (.iload 4, 2) := by decide +kernel
theorem dX1_uppermostMate_29 : decode cX1_uppermostMate 29 = .ok (.invokevirtual 49, 3) := by decide +kernel
theorem dX1_uppermostMate_32 : decode cX1_uppermostMate 32 = .ok (.iand, 1) := by decide +kernel
theorem dX1_uppermostMate_33 : decode cX1_uppermostMate 33 = .ok (.ifCond .eq 40, 3) := by decide +kernel
theorem dX1_uppermostMate_36 : decode cX1_uppermostMate 36 = .ok (.iload 5, 2) := by decide +kernel
theorem dX1_uppermostMate_38 : decode cX1_uppermostMate 38 = .ok (.iconst (-1), 1) := by decide +kernel
theorem dX1_uppermostMate_39 : decode cX1_uppermostMate 39 = .ok (.if_icmp .eq 34, 3) := by decide +kernel
theorem dX1_uppermostMate_42 : decode cX1_uppermostMate 42 = .ok (.iload 5, 2) := by decide +kernel
theorem dX1_uppermostMate_44 : decode cX1_uppermostMate 44 = .ok (.iload_n 3, 1) := by decide +kernel
theorem dX1_uppermostMate_45 : decode cX1_uppermostMate 45 = .ok (.if_icmp .gt 28, 3) := by decide +kernel
theorem dX1_uppermostMate_48 : decode cX1_uppermostMate 48 = .ok (.iload 5, 2) := by decide +kernel
theorem dX1_uppermostMate_50 : decode cX1_uppermostMate 50 = .ok (.aload_n 0, 1) := by decide +kernel
theorem dX1_uppermostMate_51 : decode cX1_uppermostMate 51 = .ok (.iload_n 1, 1) := by decide +kernel
theorem dX1_uppermostMate_52 : decode cX1_uppermostMate 52 = .ok (.iconst 1, 1) := by decide +kernel
theorem dX1_uppermostMate_53 : decode cX1_uppermostMate 53 = .ok (.iadd, 1) := by decide +kernel
theorem dX1_uppermostMate_54 : decode cX1_uppermostMate 54 = .ok (.iload_n 2, 1) := by decide +kernel
theorem dX1_uppermostMate_55 : decode cX1_uppermostMate 55 = .ok (.aload_n 0, 1) := by decide +kernel
theorem dX1_uppermostMate_56 : decode cX1_uppermostMate 56 = .ok (.iload 4, 2) := by decide +kernel
theorem dX1_uppermostMate_58 : decode cX1_uppermostMate 58 = .ok (.invokevirtual 49, 3) := by decide +kernel
theorem dX1_uppermostMate_61 : decode cX1_uppermostMate 61 = .ok (.ixor, 1) := by decide +kernel
theorem dX1_uppermostMate_62 : decode cX1_uppermostMate 62 = .ok (.invokestatic 45, 3) := by decide +kernel
theorem dX1_uppermostMate_65 : decode cX1_uppermostMate 65 = .ok (.iadd, 1) := by decide +kernel
theorem dX1_uppermostMate_66 : decode cX1_uppermostMate 66 = .ok (.iload_n 3, 1) := by decide +kernel
theorem dX1_uppermostMate_67 : decode cX1_uppermostMate 67 = .ok (.if_icmp .ne 6, 3) := by decide +kernel
theorem dX1_uppermostMate_70 : decode cX1_uppermostMate 70 = .ok (.iload 4, 2) := by decide +kernel
theorem dX1_uppermostMate_72 : decode cX1_uppermostMate 72 = .ok (.ireturn, 1) := by decide +kernel
theorem dX1_uppermostMate_73 : decode cX1_uppermostMate 73 = .ok (.iinc 4 1, 3) := by decide +kernel
theorem dX1_uppermostMate_76 : decode cX1_uppermostMate 76 = .ok (.goto (-71), 3) := by decide +kernel
theorem dX1_uppermostMate_79 : decode cX1_uppermostMate 79 = .ok (.bipush (-9), 2) := by decide +kernel
theorem dX1_uppermostMate_81 : decode cX1_uppermostMate 81 = .ok (.ireturn, 1) := by decide +kernel
theorem dX1_leastCost_0 : decode cX1_leastCost 0 = .ok (.iload_n 2, 1) := by decide +kernel
theorem dX1_leastCost_1 : decode cX1_leastCost 1 = .ok (.ifCond .eq 11, 3) := by decide +kernel
theorem dX1_leastCost_4 : decode cX1_leastCost 4 = .ok (.iload_n 1, 1) := by decide +kernel
theorem dX1_leastCost_5 : decode cX1_leastCost 5 = .ok (.aload_n 0, 1) := by decide +kernel
theorem dX1_leastCost_6 : decode cX1_leastCost 6 = .ok (.getfield 26, 3) := by decide +kernel
theorem dX1_leastCost_9 : decode cX1_leastCost 9 = .ok (.if_icmp .lt 5, 3) := by decide +kernel
theorem dX1_leastCost_12 : decode cX1_leastCost 12 = .ok (.iconst 0, 1) := by decide +kernel
theorem dX1_leastCost_13 : decode cX1_leastCost 13 = .ok (.ireturn, 1) := by decide +kernel
theorem dX1_leastCost_14 : decode cX1_leastCost 14 = .ok (.iload_n 2, 1) := by decide +kernel
theorem dX1_leastCost_15 : decode cX1_leastCost 15 = .ok (.sipush 8192, 3) := by decide +kernel
theorem dX1_leastCost_18 : decode cX1_leastCost 18 = .ok (.if_icmp .ge 21, 3) := by decide +kernel
theorem dX1_leastCost_21 : decode cX1_leastCost 21 = .ok (.aload_n 0, 1) := by decide +kernel
theorem dX1_leastCost_22 : decode cX1_leastCost 22 = .ok (.getfield 23, 3) := by decide +kernel
theorem dX1_leastCost_25 : decode cX1_leastCost 25 = .ok (.iload_n 2, 1) := by decide +kernel
theorem dX1_leastCost_26 : decode cX1_leastCost 26 = .ok (.iaload, 1) := by decide +kernel
theorem dX1_leastCost_27 : decode cX1_leastCost 27 = .ok (.ifCond .eq 12, 3) := by decide +kernel
theorem dX1_leastCost_30 : decode cX1_leastCost 30 = .ok (.aload_n 0, 1) := by decide +kernel
theorem dX1_leastCost_31 : decode cX1_leastCost 31 = .ok (.getfield 23, 3) := by decide +kernel
theorem dX1_leastCost_34 : decode cX1_leastCost 34 = .ok (.iload_n 2, 1) := by decide +kernel
theorem dX1_leastCost_35 : decode cX1_leastCost 35 = .ok (.iaload, 1) := by decide +kernel
theorem dX1_leastCost_36 : decode cX1_leastCost 36 = .ok (.iconst 1, 1) := by decide +kernel
theorem dX1_leastCost_37 : decode cX1_leastCost 37 = .ok (.isub, 1) := by decide +kernel
theorem dX1_leastCost_38 : decode cX1_leastCost 38 = .ok (.ireturn, 1) := by decide +kernel
theorem dX1_leastCost_39 : decode cX1_leastCost 39 = .ok (.iload_n 1, 1) := by decide +kernel
theorem dX1_leastCost_40 : decode cX1_leastCost 40 = .ok (.istore_n 3, 1) := by decide +kernel
theorem dX1_leastCost_41 : decode cX1_leastCost 41 = .ok (.aload_n 0, 1) := by decide +kernel
theorem dX1_leastCost_42 : decode cX1_leastCost 42 = .ok (.iload_n 1, 1) := by decide +kernel
theorem dX1_leastCost_43 : decode cX1_leastCost 43 = .ok (.invokevirtual 49, 3) := by decide +kernel
theorem dX1_leastCost_46 : decode cX1_leastCost 46 = .ok (.istore 4, 2) := by decide +kernel
theorem dX1_leastCost_48 : decode cX1_leastCost 48 = .ok (.iload_n 3, 1) := by decide +kernel
theorem dX1_leastCost_49 : decode cX1_leastCost 49 = .ok (.aload_n 0, 1) := by decide +kernel
theorem dX1_leastCost_50 : decode cX1_leastCost 50 = .ok (.getfield 26, 3) := by decide +kernel
theorem dX1_leastCost_53 : decode cX1_leastCost 53 = .ok (.iconst 1, 1) := by decide +kernel
theorem dX1_leastCost_54 : decode cX1_leastCost 54 = .ok (.isub, 1) := by decide +kernel
theorem dX1_leastCost_55 : decode cX1_leastCost 55 = .ok (.if_icmp .ge 22, 3) := by decide +kernel
theorem dX1_leastCost_58 : decode cX1_leastCost 58 = .ok (.iload_n 2, 1) := by decide +kernel
theorem dX1_leastCost_59 : decode cX1_leastCost 59 = .ok (.iload 4, 2) := by decide +kernel
theorem dX1_leastCost_61 : decode cX1_leastCost 61 = .ok (.iand, 1) := by decide +kernel
theorem dX1_leastCost_62 : decode cX1_leastCost 62 = .ok (.ifCond .ne 15, 3) := by decide +kernel
theorem dX1_leastCost_65 : decode cX1_leastCost 65 = .ok (.iinc 3 1, 3) := by decide +kernel
theorem dX1_leastCost_68 : decode cX1_leastCost 68 = .ok (.iload 4, 2) := by decide +kernel
theorem dX1_leastCost_70 : decode cX1_leastCost 70 = .ok (.iconst 1, 1) := by decide +kernel
theorem dX1_leastCost_71 : decode cX1_leastCost 71 = .ok (.ishr, 1) := by decide +kernel
theorem dX1_leastCost_72 : decode cX1_leastCost 72 = .ok (.istore 4, 2) := by decide +kernel
theorem dX1_leastCost_74 : decode cX1_leastCost 74 = .ok (.goto (-26), 3) := by decide +kernel
theorem dX1_leastCost_77 : decode cX1_leastCost 77 = .ok (.iload_n 2, 1) := by decide +kernel
theorem dX1_leastCost_78 : decode cX1_leastCost 78 = .ok (.iload 4, 2) := by decide +kernel
theorem dX1_leastCost_80 : decode cX1_leastCost 80 = .ok (.iconst (-1), 1) := by decide +kernel
theorem dX1_leastCost_81 : decode cX1_leastCost 81 = .ok (.ixor, 1) := by decide +kernel
theorem dX1_leastCost_82 : decode cX1_leastCost 82 = .ok (.iand, 1) := by decide +kernel
theorem dX1_leastCost_83 : decode cX1_leastCost 83 = .ok (.istore 5, 2) := by decide +kernel
theorem dX1_leastCost_85 : decode cX1_leastCost 85 = .ok (.ldc 57, 2) := by decide +kernel
theorem dX1_leastCost_87 : decode cX1_leastCost 87 = .ok (.istore 6, 2) := by decide +kernel
theorem dX1_leastCost_89 : decode cX1_leastCost 89 = .ok (.iload_n 3, 1) := by decide +kernel
theorem dX1_leastCost_90 : decode cX1_leastCost 90 = .ok (.iconst 1, 1) := by decide +kernel
theorem dX1_leastCost_91 : decode cX1_leastCost 91 = .ok (.iadd, 1) := by decide +kernel
theorem dX1_leastCost_92 : decode cX1_leastCost 92 = .ok (.istore 7, 2) := by decide +kernel
theorem dX1_leastCost_94 : decode cX1_leastCost 94 = .ok (.iload 7, 2) := by decide +kernel
theorem dX1_leastCost_96 : decode cX1_leastCost 96 = .ok (.aload_n 0, 1) := by decide +kernel
theorem dX1_leastCost_97 : decode cX1_leastCost 97 = .ok (.getfield 26, 3) := by decide +kernel
theorem dX1_leastCost_100 : decode cX1_leastCost 100 = .ok (.if_icmp .ge 69, 3) := by decide +kernel
theorem dX1_leastCost_103 : decode cX1_leastCost 103 = .ok (.iload 4, 2) := by decide +kernel
theorem dX1_leastCost_105 : decode cX1_leastCost 105 = .ok (.iconst 1, 1) := by decide +kernel
theorem dX1_leastCost_106 : decode cX1_leastCost 106 = .ok (.ishr, 1) := by decide +kernel
theorem dX1_leastCost_107 : decode cX1_leastCost 107 = .ok (.istore 4, 2) := by decide +kernel
theorem dX1_leastCost_109 : decode cX1_leastCost 109 = .ok (.aload_n 0, 1) := by decide +kernel
theorem dX1_leastCost_110 : decode cX1_leastCost 110 = .ok (.getfield 20, 3) := by decide +kernel
theorem dX1_leastCost_113 : decode cX1_leastCost 113 = .ok (.iload_n 3, 1) := by decide +kernel
theorem dX1_leastCost_114 : decode cX1_leastCost 114 = .ok (.aaload, 1) := by decide +kernel
theorem dX1_leastCost_115 : decode cX1_leastCost 115 = .ok (.iload 7, 2) := by decide +kernel
theorem dX1_leastCost_117 : decode cX1_leastCost 117 = .ok (.iaload, 1) := by decide +kernel
theorem dX1_leastCost_118 : decode cX1_leastCost 118 = .ok (.istore 8, 2) := by decide +kernel
theorem dX1_leastCost_120 : decode cX1_leastCost 120 = .ok (.iload 5, 2) := by decide +kernel
theorem dX1_leastCost_122 : decode cX1_leastCost 122 = .ok (.iload 4, 2) := by decide +kernel
theorem dX1_leastCost_124 : decode cX1_leastCost 124 = .ok (.iand, 1) := by decide +kernel
theorem dX1_leastCost_125 : decode cX1_leastCost 125 = .ok (.ifCond .eq 38, 3) := by decide +kernel
theorem dX1_leastCost_128 : decode cX1_leastCost 128 = .ok (.iload 8, 2) := by decide +kernel
theorem dX1_leastCost_130 : decode cX1_leastCost 130 = .ok (.iconst (-1), 1) := by decide +kernel
theorem dX1_leastCost_131 : decode cX1_leastCost 131 = .ok (.if_icmp .eq 32, 3) := by decide +kernel
theorem dX1_leastCost_134 : decode cX1_leastCost 134 = .ok (.iload 8, 2) := by decide +kernel
theorem dX1_leastCost_136 : decode cX1_leastCost 136 = .ok (.iload 6, 2) := by decide +kernel
theorem dX1_leastCost_138 : decode cX1_leastCost 138 = .ok (.if_icmp .ge 25, 3) := by decide +kernel
theorem dX1_leastCost_141 : decode cX1_leastCost 141 = .ok (.iload 6, 2) := by decide +kernel
theorem dX1_leastCost_143 : decode cX1_leastCost 143 = .ok (.iload 8, 2) := by decide +kernel
theorem dX1_leastCost_145 : decode cX1_leastCost 145 = .ok (.aload_n 0, 1) := by decide +kernel
theorem dX1_leastCost_146 : decode cX1_leastCost 146 = .ok (.iload_n 3, 1) := by decide +kernel
theorem dX1_leastCost_147 : decode cX1_leastCost 147 = .ok (.iconst 1, 1) := by decide +kernel
theorem dX1_leastCost_148 : decode cX1_leastCost 148 = .ok (.iadd, 1) := by decide +kernel
theorem dX1_leastCost_149 : decode cX1_leastCost 149 = .ok (.iload 5, 2) := by decide +kernel
theorem dX1_leastCost_151 : decode cX1_leastCost 151 = .ok (.iload 4, 2) := by decide +kernel
theorem dX1_leastCost_153 : decode cX1_leastCost 153 = .ok (.ixor, 1) := by decide +kernel
theorem dX1_leastCost_154 : decode cX1_leastCost 154 = .ok (.invokestatic 45, 3) := by decide +kernel
theorem dX1_leastCost_157 : decode cX1_leastCost 157 = .ok (.iadd, 1) := by decide +kernel
theorem dX1_leastCost_158 : decode cX1_leastCost 158 = .ok (.invokestatic 30, 3) := by decide +kernel
theorem dX1_leastCost_161 : decode cX1_leastCost 161 = .ok (.istore 6, 2) := by decide +kernel
theorem dX1_leastCost_163 : decode cX1_leastCost 163 = .ok (.iinc 7 1, 3) := by decide +kernel
theorem dX1_leastCost_166 : decode cX1_leastCost 166 = .ok (.goto (-72), 3) := by decide +kernel
theorem dX1_leastCost_169 : decode cX1_leastCost 169 = .ok (.iload 6, 2) := by decide +kernel
theorem dX1_leastCost_171 : decode cX1_leastCost 171 = .ok (.sipush 10000, 3) := by decide +kernel
theorem dX1_leastCost_174 : decode cX1_leastCost 174 = .ok (.if_icmp .le 23, 3) := by decide +kernel
theorem dX1_leastCost_177 : decode cX1_leastCost 177 = .ok (.iload 6, 2) := by decide +kernel
theorem dX1_leastCost_179 : decode cX1_leastCost 179 = .ok (.sipush 10000, 3) := by decide +kernel
theorem dX1_leastCost_182 : decode cX1_leastCost 182 = .ok (.aload_n 0, 1) := by decide +kernel
theorem dX1_leastCost_183 : decode cX1_leastCost 183 = .ok (.iload_n 3, 1) := by decide +kernel
theorem dX1_leastCost_184 : decode cX1_leastCost 184 = .ok (.iconst 1, 1) := by decide +kernel
theorem dX1_leastCost_185 : decode cX1_leastCost 185 = .ok (.iadd, 1) := by decide +kernel
theorem dX1_leastCost_186 : decode cX1_leastCost 186 = .ok (.iload 5, 2) := by decide +kernel
theorem dX1_leastCost_188 : decode cX1_leastCost 188 = .ok (.invokestatic 45, 3) := by decide +kernel
theorem dX1_leastCost_191 : decode cX1_leastCost 191 = .ok (.iadd, 1) := by decide +kernel
theorem dX1_leastCost_192 : decode cX1_leastCost 192 = .ok (.invokestatic 30, 3) := by decide +kernel
theorem dX1_leastCost_195 : decode cX1_leastCost 195 = .ok (.istore 6, 2) := by decide +kernel
theorem dX1_leastCost_197 : decode cX1_leastCost 197 = .ok (.iload_n 2, 1) := by decide +kernel
theorem dX1_leastCost_198 : decode cX1_leastCost 198 = .ok (.sipush 8192, 3) := by decide +kernel
theorem dX1_leastCost_201 : decode cX1_leastCost 201 = .ok (.if_icmp .ge 13, 3) := by decide +kernel
theorem dX1_leastCost_204 : decode cX1_leastCost 204 = .ok (.aload_n 0, 1) := by decide +kernel
theorem dX1_leastCost_205 : decode cX1_leastCost 205 = .ok (.getfield 23, 3) := by decide +kernel
theorem dX1_leastCost_208 : decode cX1_leastCost 208 = .ok (.iload_n 2, 1) := by decide +kernel
theorem dX1_leastCost_209 : decode cX1_leastCost 209 = .ok (.iload 6, 2) := by decide +kernel
theorem dX1_leastCost_211 : decode cX1_leastCost 211 = .ok (.iconst 1, 1) := by decide +kernel
theorem dX1_leastCost_212 : decode cX1_leastCost 212 = .ok (.iadd, 1) := by decide +kernel
theorem dX1_leastCost_213 : decode cX1_leastCost 213 = .ok (.iastore, 1) := by decide +kernel
theorem dX1_leastCost_214 : decode cX1_leastCost 214 = .ok (.iload 6, 2) := by decide +kernel
theorem dX1_leastCost_216 : decode cX1_leastCost 216 = .ok (.ireturn, 1) := by decide +kernel
theorem dX2_init_0 : decode cX2_init 0 = .ok (.aload_n 0, 1) := by decide +kernel
theorem dX2_init_1 : decode cX2_init 1 = .ok (.invokespecial 3, 3) := by decide +kernel
theorem dX2_init_4 : decode cX2_init 4 = .ok (.aload_n 0, 1) := by decide +kernel
theorem dX2_init_5 : decode cX2_init 5 = .ok (.bipush 6, 2) := by decide +kernel
theorem dX2_init_7 : decode cX2_init 7 = .ok (.newarray .int, 2) := by decide +kernel
theorem dX2_init_9 : decode cX2_init 9 = .ok (.putfield 9, 3) := by decide +kernel
theorem dX2_init_12 : decode cX2_init 12 = .ok (.return_, 1) := by decide +kernel
theorem dX2_found_0 : decode cX2_found 0 = .ok (.aload_n 0, 1) := by decide +kernel
theorem dX2_found_1 : decode cX2_found 1 = .ok (.iload_n 1, 1) := by decide +kernel
theorem dX2_found_2 : decode cX2_found 2 = .ok (.putfield 15, 3) := by decide +kernel
theorem dX2_found_5 : decode cX2_found 5 = .ok (.aload_n 0, 1) := by decide +kernel
theorem dX2_found_6 : decode cX2_found 6 = .ok (.getfield 9, 3) := by decide +kernel
theorem dX2_found_9 : decode cX2_found 9 = .ok (.iload_n 1, 1) := by decide +kernel
theorem dX2_found_10 : decode cX2_found 10 = .ok (.dup2, 1) := by decide +kernel
theorem dX2_found_11 : decode cX2_found 11 = .ok (.iaload, 1) := by decide +kernel
theorem dX2_found_12 : decode cX2_found 12 = .ok (.iconst 1, 1) := by decide +kernel
theorem dX2_found_13 : decode cX2_found 13 = .ok (.iadd, 1) := by decide +kernel
theorem dX2_found_14 : decode cX2_found 14 = .ok (.iastore, 1) := by decide +kernel
theorem dX2_found_15 : decode cX2_found 15 = .ok (.bipush (-3), 2) := by decide +kernel
theorem dX2_found_17 : decode cX2_found 17 = .ok (.ireturn, 1) := by decide +kernel
theorem dX3_init_0 : decode cX3_init 0 = .ok (.aload_n 0, 1) := by decide +kernel
theorem dX3_init_1 : decode cX3_init 1 = .ok (.invokespecial 3, 3) := by decide +kernel
theorem dX3_init_4 : decode cX3_init 4 = .ok (.aload_n 0, 1) := by decide +kernel
theorem dX3_init_5 : decode cX3_init 5 = .ok (.bipush 16, 2) := by decide +kernel
theorem dX3_init_7 : decode cX3_init 7 = .ok (.newarray .int, 2) := by decide +kernel
theorem dX3_init_9 : decode cX3_init 9 = .ok (.putfield 9, 3) := by decide +kernel
theorem dX3_init_12 : decode cX3_init 12 = .ok (.aload_n 0, 1) := by decide +kernel
theorem dX3_init_13 : decode cX3_init 13 = .ok (.bipush 16, 2) := by decide +kernel
theorem dX3_init_15 : decode cX3_init 15 = .ok (.newarray .int, 2) := by decide +kernel
theorem dX3_init_17 : decode cX3_init 17 = .ok (.putfield 15, 3) := by decide +kernel
theorem dX3_init_20 : decode cX3_init 20 = .ok (.aload_n 0, 1) := by decide +kernel
theorem dX3_init_21 : decode cX3_init 21 = .ok (.bipush 16, 2) := by decide +kernel
theorem dX3_init_23 : decode cX3_init 23 = .ok (.newarray .int, 2) := by decide +kernel
theorem dX3_init_25 : decode cX3_init 25 = .ok (.putfield 18, 3) := by decide +kernel
theorem dX3_init_28 : decode cX3_init 28 = .ok (.aload_n 0, 1) := by decide +kernel
theorem dX3_init_29 : decode cX3_init 29 = .ok (.bipush 16, 2) := by decide +kernel
theorem dX3_init_31 : decode cX3_init 31 = .ok (.newarray .int, 2) := by decide +kernel
theorem dX3_init_33 : decode cX3_init 33 = .ok (.putfield 21, 3) := by decide +kernel
theorem dX3_init_36 : decode cX3_init 36 = .ok (.aload_n 0, 1) := by decide +kernel
theorem dX3_init_37 : decode cX3_init 37 = .ok (.bipush 16, 2) := by decide +kernel
theorem dX3_init_39 : decode cX3_init 39 = .ok (.newarray .int, 2) := by decide +kernel
theorem dX3_init_41 : decode cX3_init 41 = .ok (.putfield 24, 3) := by decide +kernel
theorem dX3_init_44 : decode cX3_init 44 = .ok (.aload_n 0, 1) := by decide +kernel
theorem dX3_init_45 : decode cX3_init 45 = .ok (.bipush 16, 2) := by decide +kernel
theorem dX3_init_47 : decode cX3_init 47 = .ok (.newarray .int, 2) := by decide +kernel
theorem dX3_init_49 : decode cX3_init 49 = .ok (.putfield 27, 3) := by decide +kernel
theorem dX3_init_52 : decode cX3_init 52 = .ok (.aload_n 0, 1) := by decide +kernel
theorem dX3_init_53 : decode cX3_init 53 = .ok (.bipush 16, 2) := by decide +kernel
theorem dX3_init_55 : decode cX3_init 55 = .ok (.newarray .int, 2) := by decide +kernel
theorem dX3_init_57 : decode cX3_init 57 = .ok (.putfield 30, 3) := by decide +kernel
theorem dX3_init_60 : decode cX3_init 60 = .ok (.aload_n 0, 1) := by decide +kernel
theorem dX3_init_61 : decode cX3_init 61 = .ok (.bipush 16, 2) := by decide +kernel
theorem dX3_init_63 : decode cX3_init 63 = .ok (.newarray .int, 2) := by decide +kernel
theorem dX3_init_65 : decode cX3_init 65 = .ok (.putfield 33, 3) := by decide +kernel
theorem dX3_init_68 : decode cX3_init 68 = .ok (.aload_n 0, 1) := by decide +kernel
theorem dX3_init_69 : decode cX3_init 69 = .ok (.bipush 16, 2) := by decide +kernel
theorem dX3_init_71 : decode cX3_init 71 = .ok (.newarray .boolean, 2) := by decide +kernel
theorem dX3_init_73 : decode cX3_init 73 = .ok (.putfield 36, 3) := by decide +kernel
theorem dX3_init_76 : decode cX3_init 76 = .ok (.aload_n 0, 1) := by decide +kernel
theorem dX3_init_77 : decode cX3_init 77 = .ok (.bipush 16, 2) := by decide +kernel
theorem dX3_init_79 : decode cX3_init 79 = .ok (.newarray .boolean, 2) := by decide +kernel
theorem dX3_init_81 : decode cX3_init 81 = .ok (.putfield 40, 3) := by decide +kernel
theorem dX3_init_84 : decode cX3_init 84 = .ok (.aload_n 0, 1) := by decide +kernel
theorem dX3_init_85 : decode cX3_init 85 = .ok (.bipush 16, 2) := by decide +kernel
theorem dX3_init_87 : decode cX3_init 87 = .ok (.newarray .int, 2) := by decide +kernel
theorem dX3_init_89 : decode cX3_init 89 = .ok (.putfield 43, 3) := by decide +kernel
theorem dX3_init_92 : decode cX3_init 92 = .ok (.return_, 1) := by decide +kernel
theorem dX3_knows_0 : decode cX3_knows 0 = .ok (.iload_n 1, 1) := by decide +kernel
theorem dX3_knows_1 : decode cX3_knows 1 = .ok (.ifCond .lt 15, 3) := by decide +kernel
theorem dX3_knows_4 : decode cX3_knows 4 = .ok (.iload_n 1, 1) := by decide +kernel
theorem dX3_knows_5 : decode cX3_knows 5 = .ok (.aload_n 0, 1) := by decide +kernel
theorem dX3_knows_6 : decode cX3_knows 6 = .ok (.getfield 46, 3) := by decide +kernel
theorem dX3_knows_9 : decode cX3_knows 9 = .ok (.if_icmp .ge 7, 3) := by decide +kernel
theorem dX3_knows_12 : decode cX3_knows 12 = .ok (.iconst 1, 1) := by decide +kernel
theorem dX3_knows_13 : decode cX3_knows 13 = .ok (.goto 4, 3) := by decide +kernel
theorem dX3_knows_16 : decode cX3_knows 16 = .ok (.iconst 0, 1) := by decide +kernel
theorem dX3_knows_17 : decode cX3_knows 17 = .ok (.ireturn, 1) := by decide +kernel
theorem dX3_isOf_0 : decode cX3_isOf 0 = .ok (.iload_n 2, 1) := by decide +kernel
theorem dX3_isOf_1 : decode cX3_isOf 1 = .ok (.ifCond .eq 13, 3) := by decide +kernel
theorem dX3_isOf_4 : decode cX3_isOf 4 = .ok (.aload_n 0, 1) := by decide +kernel
theorem dX3_isOf_5 : decode cX3_isOf 5 = .ok (.getfield 9, 3) := by decide +kernel
theorem dX3_isOf_8 : decode cX3_isOf 8 = .ok (.iload_n 1, 1) := by decide +kernel
theorem dX3_isOf_9 : decode cX3_isOf 9 = .ok (.iaload, 1) := by decide +kernel
theorem dX3_isOf_10 : decode cX3_isOf 10 = .ok (.iload_n 2, 1) := by decide +kernel
theorem dX3_isOf_11 : decode cX3_isOf 11 = .ok (.if_icmp .ne 7, 3) := by decide +kernel
theorem dX3_isOf_14 : decode cX3_isOf 14 = .ok (.iconst 1, 1) := by decide +kernel
theorem dX3_isOf_15 : decode cX3_isOf 15 = .ok (.goto 4, 3) := by decide +kernel
theorem dX3_isOf_18 : decode cX3_isOf 18 = .ok (.iconst 0, 1) := by decide +kernel
theorem dX3_isOf_19 : decode cX3_isOf 19 = .ok (.ireturn, 1) := by decide +kernel
theorem dX3_add_0 : decode cX3_add 0 = .ok (.aload_n 0, 1) := by decide +kernel
theorem dX3_add_1 : decode cX3_add 1 = .ok (.getfield 46, 3) := by decide +kernel
theorem dX3_add_4 : decode cX3_add 4 = .ok (.istore 4, 2) := by decide +kernel
theorem dX3_add_6 : decode cX3_add 6 = .ok (.aload_n 0, 1) := by decide +kernel
theorem dX3_add_7 : decode cX3_add 7 = .ok (.getfield 9, 3) := by decide +kernel
theorem dX3_add_10 : decode cX3_add 10 = .ok (.iload 4, 2) := by decide +kernel
theorem dX3_add_12 : decode cX3_add 12 = .ok (.iload_n 1, 1) := by decide +kernel
theorem dX3_add_13 : decode cX3_add 13 = .ok (.iastore, 1) := by decide +kernel
theorem dX3_add_14 : decode cX3_add 14 = .ok (.aload_n 0, 1) := by decide +kernel
theorem dX3_add_15 : decode cX3_add 15 = .ok (.getfield 15, 3) := by decide +kernel
theorem dX3_add_18 : decode cX3_add 18 = .ok (.iload 4, 2) := by decide +kernel
theorem dX3_add_20 : decode cX3_add 20 = .ok (.iload_n 2, 1) := by decide +kernel
theorem dX3_add_21 : decode cX3_add 21 = .ok (.iastore, 1) := by decide +kernel
theorem dX3_add_22 : decode cX3_add 22 = .ok (.aload_n 0, 1) := by decide +kernel
theorem dX3_add_23 : decode cX3_add 23 = .ok (.getfield 18, 3) := by decide +kernel
theorem dX3_add_26 : decode cX3_add 26 = .ok (.iload 4, 2) := by decide +kernel
theorem dX3_add_28 : decode cX3_add 28 = .ok (.iload_n 3, 1) := by decide +kernel
theorem dX3_add_29 : decode cX3_add 29 = .ok (.iastore, 1) := by decide +kernel
theorem dX3_add_30 : decode cX3_add 30 = .ok (.aload_n 0, 1) := by decide +kernel
theorem dX3_add_31 : decode cX3_add 31 = .ok (.iload 4, 2) := by decide +kernel
theorem dX3_add_33 : decode cX3_add 33 = .ok (.aload_n 0, 1) := by decide +kernel
theorem dX3_add_34 : decode cX3_add 34 = .ok (.getfield 50, 3) := by decide +kernel
theorem dX3_add_37 : decode cX3_add 37 = .ok (.invokevirtual 53, 3) := by decide +kernel
theorem dX3_add_40 : decode cX3_add 40 = .ok (.aload_n 0, 1) := by decide +kernel
theorem dX3_add_41 : decode cX3_add 41 = .ok (.dup, 1) := by decide +kernel
theorem dX3_add_42 : decode cX3_add 42 = .ok (.getfield 46, 3) := by decide +kernel
theorem dX3_add_45 : decode cX3_add 45 = .ok (.iconst 1, 1) := by decide +kernel
theorem dX3_add_46 : decode cX3_add 46 = .ok (.iadd, 1) := by decide +kernel
theorem dX3_add_47 : decode cX3_add 47 = .ok (.putfield 46, 3) := by decide +kernel
theorem dX3_add_50 : decode cX3_add 50 = .ok (.aload_n 0, 1) := by decide +kernel
theorem dX3_add_51 : decode cX3_add 51 = .ok (.dup, 1) := by decide +kernel
theorem dX3_add_52 : decode cX3_add 52 = .ok (.getfield 50, 3) := by decide +kernel
theorem dX3_add_55 : decode cX3_add 55 = .ok (.iconst 1, 1) := by decide +kernel
theorem dX3_add_56 : decode cX3_add 56 = .ok (.iadd, 1) := by decide +kernel
theorem dX3_add_57 : decode cX3_add 57 = .ok (.putfield 50, 3) := by decide +kernel
theorem dX3_add_60 : decode cX3_add 60 = .ok (.iload 4, 2) := by decide +kernel
theorem dX3_add_62 : decode cX3_add 62 = .ok (.ireturn, 1) := by decide +kernel
theorem dX3_remove_0 : decode cX3_remove 0 = .ok (.aload_n 0, 1) := by decide +kernel
theorem dX3_remove_1 : decode cX3_remove 1 = .ok (.getfield 21, 3) := by decide +kernel
theorem dX3_remove_4 : decode cX3_remove 4 = .ok (.iload_n 1, 1) := by decide +kernel
theorem dX3_remove_5 : decode cX3_remove 5 = .ok (.iaload, 1) := by decide +kernel
theorem dX3_remove_6 : decode cX3_remove 6 = .ok (.istore_n 2, 1) := by decide +kernel
theorem dX3_remove_7 : decode cX3_remove 7 = .ok (.aload_n 0, 1) := by decide +kernel
theorem dX3_remove_8 : decode cX3_remove 8 = .ok (.getfield 36, 3) := by decide +kernel
theorem dX3_remove_11 : decode cX3_remove 11 = .ok (.iload_n 1, 1) := by decide +kernel
theorem dX3_remove_12 : decode cX3_remove 12 = .ok (.iconst 1, 1) := by decide +kernel
theorem dX3_remove_13 : decode cX3_remove 13 = .ok (.bastore, 1) := by decide +kernel
theorem dX3_remove_14 : decode cX3_remove 14 = .ok (.aload_n 0, 1) := by decide +kernel
theorem dX3_remove_15 : decode cX3_remove 15 = .ok (.dup, 1) := by decide +kernel
theorem dX3_remove_16 : decode cX3_remove 16 = .ok (.getfield 50, 3) := by decide +kernel
theorem dX3_remove_19 : decode cX3_remove 19 = .ok (.iconst 1, 1) := by decide +kernel
theorem dX3_remove_20 : decode cX3_remove 20 = .ok (.isub, 1) := by decide +kernel
theorem dX3_remove_21 : decode cX3_remove 21 = .ok (.putfield 50, 3) := by decide +kernel
theorem dX3_remove_24 : decode cX3_remove 24 = .ok (.iload_n 2, 1) := by decide +kernel
theorem dX3_remove_25 : decode cX3_remove 25 = .ok (.istore_n 3, 1) := by decide +kernel
theorem dX3_remove_26 : decode cX3_remove 26 = .ok (.iload_n 3, 1) := by decide +kernel
theorem dX3_remove_27 : decode cX3_remove 27 = .ok (.aload_n 0, 1) := by decide +kernel
theorem dX3_remove_28 : decode cX3_remove 28 = .ok (.getfield 50, 3) := by decide +kernel
theorem dX3_remove_31 : decode cX3_remove 31 = .ok (.if_icmp .ge 22, 3) := by decide +kernel
theorem dX3_remove_34 : decode cX3_remove 34 = .ok (.aload_n 0, 1) := by decide +kernel
theorem dX3_remove_35 : decode cX3_remove 35 = .ok (.aload_n 0, 1) := by decide +kernel
theorem dX3_remove_36 : decode cX3_remove 36 = .ok (.getfield 43, 3) := by decide +kernel
theorem dX3_remove_39 : decode cX3_remove 39 = .ok (.iload_n 3, 1) := by decide +kernel
theorem dX3_remove_40 : decode cX3_remove 40 = .ok (.iconst 1, 1) := by decide +kernel
theorem dX3_remove_41 : decode cX3_remove 41 = .ok (.iadd, 1) := by decide +kernel
theorem dX3_remove_42 : decode cX3_remove 42 = .ok (.iaload, 1) := by decide +kernel
theorem dX3_remove_43 : decode cX3_remove 43 = .ok (.iload_n 3, 1) := by decide +kernel
theorem dX3_remove_44 : decode cX3_remove 44 = .ok (.invokevirtual 53, 3) := by decide +kernel
theorem dX3_remove_47 : decode cX3_remove 47 = .ok (.iinc 3 1, 3) := by decide +kernel
theorem dX3_remove_50 : decode cX3_remove 50 = .ok (.goto (-24), 3) := by decide +kernel
theorem dX3_remove_53 : decode cX3_remove 53 = .ok (.iload_n 2, 1) := by decide +kernel
theorem dX3_remove_54 : decode cX3_remove 54 = .ok (.ireturn, 1) := by decide +kernel
theorem dX3_place_0 : decode cX3_place 0 = .ok (.aload_n 0, 1) := by decide +kernel
theorem dX3_place_1 : decode cX3_place 1 = .ok (.getfield 43, 3) := by decide +kernel
theorem dX3_place_4 : decode cX3_place 4 = .ok (.iload_n 2, 1) := by decide +kernel
theorem dX3_place_5 : decode cX3_place 5 = .ok (.iload_n 1, 1) := by decide +kernel
theorem dX3_place_6 : decode cX3_place 6 = .ok (.iastore, 1) := by decide +kernel
theorem dX3_place_7 : decode cX3_place 7 = .ok (.aload_n 0, 1) := by decide +kernel
theorem dX3_place_8 : decode cX3_place 8 = .ok (.getfield 21, 3) := by decide +kernel
theorem dX3_place_11 : decode cX3_place 11 = .ok (.iload_n 1, 1) := by decide +kernel
theorem dX3_place_12 : decode cX3_place 12 = .ok (.iload_n 2, 1) := by decide +kernel
theorem dX3_place_13 : decode cX3_place 13 = .ok (.iastore, 1) := by decide +kernel
theorem dX3_place_14 : decode cX3_place 14 = .ok (.return_, 1) := by decide +kernel
theorem dX3_clearScores_0 : decode cX3_clearScores 0 = .ok (.aload_n 0, 1) := by decide +kernel
theorem dX3_clearScores_1 : decode cX3_clearScores 1 = .ok (.getfield 24, 3) := by decide +kernel
theorem dX3_clearScores_4 : decode cX3_clearScores 4 = .ok (.iconst 0, 1) := by decide +kernel
theorem dX3_clearScores_5 : decode cX3_clearScores 5 = .ok (.invokestatic 57, 3) := by decide +kernel
theorem dX3_clearScores_8 : decode cX3_clearScores 8 = .ok (.aload_n 0, 1) := by decide +kernel
theorem dX3_clearScores_9 : decode cX3_clearScores 9 = .ok (.getfield 27, 3) := by decide +kernel
theorem dX3_clearScores_12 : decode cX3_clearScores 12 = .ok (.iconst 0, 1) := by decide +kernel
theorem dX3_clearScores_13 : decode cX3_clearScores 13 = .ok (.invokestatic 57, 3) := by decide +kernel
theorem dX3_clearScores_16 : decode cX3_clearScores 16 = .ok (.return_, 1) := by decide +kernel
theorem dX3_mostWins_0 : decode cX3_mostWins 0 = .ok (.iconst 0, 1) := by decide +kernel
theorem dX3_mostWins_1 : decode cX3_mostWins 1 = .ok (.istore_n 1, 1) := by decide +kernel
theorem dX3_mostWins_2 : decode cX3_mostWins 2 = .ok (.iconst 0, 1) := by decide +kernel
theorem dX3_mostWins_3 : decode cX3_mostWins 3 = .ok (.istore_n 2, 1) := by decide +kernel
theorem dX3_mostWins_4 : decode cX3_mostWins 4 = .ok (.iload_n 2, 1) := by decide +kernel
theorem dX3_mostWins_5 : decode cX3_mostWins 5 = .ok (.aload_n 0, 1) := by decide +kernel
theorem dX3_mostWins_6 : decode cX3_mostWins 6 = .ok (.getfield 50, 3) := by decide +kernel
theorem dX3_mostWins_9 : decode cX3_mostWins 9 = .ok (.if_icmp .ge 25, 3) := by decide +kernel
theorem dX3_mostWins_12 : decode cX3_mostWins 12 = .ok (.iload_n 1, 1) := by decide +kernel
theorem dX3_mostWins_13 : decode cX3_mostWins 13 = .ok (.aload_n 0, 1) := by decide +kernel
theorem dX3_mostWins_14 : decode cX3_mostWins 14 = .ok (.getfield 24, 3) := by decide +kernel
theorem dX3_mostWins_17 : decode cX3_mostWins 17 = .ok (.aload_n 0, 1) := by decide +kernel
theorem dX3_mostWins_18 : decode cX3_mostWins 18 = .ok (.getfield 43, 3) := by decide +kernel
theorem dX3_mostWins_21 : decode cX3_mostWins 21 = .ok (.iload_n 2, 1) := by decide +kernel
theorem dX3_mostWins_22 : decode cX3_mostWins 22 = .ok (.iaload, 1) := by decide +kernel
theorem dX3_mostWins_23 : decode cX3_mostWins 23 = .ok (.iaload, 1) := by decide +kernel
theorem dX3_mostWins_24 : decode cX3_mostWins 24 = .ok (.invokestatic 63, 3) := by decide +kernel
theorem dX3_mostWins_27 : decode cX3_mostWins 27 = .ok (.istore_n 1, 1) := by decide +kernel
theorem dX3_mostWins_28 : decode cX3_mostWins 28 = .ok (.iinc 2 1, 3) := by decide +kernel
theorem dX3_mostWins_31 : decode cX3_mostWins 31 = .ok (.goto (-27), 3) := by decide +kernel
theorem dX3_mostWins_34 : decode cX3_mostWins 34 = .ok (.iload_n 1, 1) := by decide +kernel
theorem dX3_mostWins_35 : decode cX3_mostWins 35 = .ok (.ireturn, 1) := by decide +kernel
theorem dX3_fact_0 : decode cX3_fact 0 = .ok (.iload_n 2, 1) := by decide +kernel
theorem dX3_fact_1 : decode cX3_fact 1 = .ok (.tableswitch 81 0 5 #[39, 46, 53, 60, 67, 74], 39) := by decide +kernel
theorem dX3_fact_40 : decode cX3_fact 40 = .ok (.aload_n 0, 1) := by decide +kernel
theorem dX3_fact_41 : decode cX3_fact 41 = .ok (.getfield 9, 3) := by decide +kernel
theorem dX3_fact_44 : decode cX3_fact 44 = .ok (.iload_n 1, 1) := by decide +kernel
theorem dX3_fact_45 : decode cX3_fact 45 = .ok (.iaload, 1) := by decide +kernel
theorem dX3_fact_46 : decode cX3_fact 46 = .ok (.ireturn, 1) := by decide +kernel
theorem dX3_fact_47 : decode cX3_fact 47 = .ok (.aload_n 0, 1) := by decide +kernel
theorem dX3_fact_48 : decode cX3_fact 48 = .ok (.getfield 15, 3) := by decide +kernel
theorem dX3_fact_51 : decode cX3_fact 51 = .ok (.iload_n 1, 1) := by decide +kernel
theorem dX3_fact_52 : decode cX3_fact 52 = .ok (.iaload, 1) := by decide +kernel
theorem dX3_fact_53 : decode cX3_fact 53 = .ok (.ireturn, 1) := by decide +kernel
theorem dX3_fact_54 : decode cX3_fact 54 = .ok (.aload_n 0, 1) := by decide +kernel
theorem dX3_fact_55 : decode cX3_fact 55 = .ok (.getfield 18, 3) := by decide +kernel
theorem dX3_fact_58 : decode cX3_fact 58 = .ok (.iload_n 1, 1) := by decide +kernel
theorem dX3_fact_59 : decode cX3_fact 59 = .ok (.iaload, 1) := by decide +kernel
theorem dX3_fact_60 : decode cX3_fact 60 = .ok (.ireturn, 1) := by decide +kernel
theorem dX3_fact_61 : decode cX3_fact 61 = .ok (.aload_n 0, 1) := by decide +kernel
theorem dX3_fact_62 : decode cX3_fact 62 = .ok (.getfield 21, 3) := by decide +kernel
theorem dX3_fact_65 : decode cX3_fact 65 = .ok (.iload_n 1, 1) := by decide +kernel
theorem dX3_fact_66 : decode cX3_fact 66 = .ok (.iaload, 1) := by decide +kernel
theorem dX3_fact_67 : decode cX3_fact 67 = .ok (.ireturn, 1) := by decide +kernel
theorem dX3_fact_68 : decode cX3_fact 68 = .ok (.aload_n 0, 1) := by decide +kernel
theorem dX3_fact_69 : decode cX3_fact 69 = .ok (.getfield 24, 3) := by decide +kernel
theorem dX3_fact_72 : decode cX3_fact 72 = .ok (.iload_n 1, 1) := by decide +kernel
theorem dX3_fact_73 : decode cX3_fact 73 = .ok (.iaload, 1) := by decide +kernel
theorem dX3_fact_74 : decode cX3_fact 74 = .ok (.ireturn, 1) := by decide +kernel
theorem dX3_fact_75 : decode cX3_fact 75 = .ok (.aload_n 0, 1) := by decide +kernel
theorem dX3_fact_76 : decode cX3_fact 76 = .ok (.getfield 27, 3) := by decide +kernel
theorem dX3_fact_79 : decode cX3_fact 79 = .ok (.iload_n 1, 1) := by decide +kernel
theorem dX3_fact_80 : decode cX3_fact 80 = .ok (.iaload, 1) := by decide +kernel
theorem dX3_fact_81 : decode cX3_fact 81 = .ok (.ireturn, 1) := by decide +kernel
theorem dX3_fact_82 : decode cX3_fact 82 = .ok (.aload_n 0, 1) := by decide +kernel
theorem dX3_fact_83 : decode cX3_fact 83 = .ok (.getfield 30, 3) := by decide +kernel
theorem dX3_fact_86 : decode cX3_fact 86 = .ok (.iload_n 1, 1) := by decide +kernel
theorem dX3_fact_87 : decode cX3_fact 87 = .ok (.iaload, 1) := by decide +kernel
theorem dX3_fact_88 : decode cX3_fact 88 = .ok (.ireturn, 1) := by decide +kernel
theorem dX4_init_0 : decode cX4_init 0 = .ok (.aload_n 0, 1) := by decide +kernel
theorem dX4_init_1 : decode cX4_init 1 = .ok (.invokespecial 3, 3) := by decide +kernel
theorem dX4_init_4 : decode cX4_init 4 = .ok (.aload_n 0, 1) := by decide +kernel
theorem dX4_init_5 : decode cX4_init 5 = .ok (.iconst 4, 1) := by decide +kernel
theorem dX4_init_6 : decode cX4_init 6 = .ok (.bipush 16, 2) := by decide +kernel
theorem dX4_init_8 : decode cX4_init 8 = .ok (.multianewarray 9 2, 4) := by decide +kernel
theorem dX4_init_12 : decode cX4_init 12 = .ok (.putfield 11, 3) := by decide +kernel
theorem dX4_init_15 : decode cX4_init 15 = .ok (.aload_n 0, 1) := by decide +kernel
theorem dX4_init_16 : decode cX4_init 16 = .ok (.iconst 4, 1) := by decide +kernel
theorem dX4_init_17 : decode cX4_init 17 = .ok (.newarray .int, 2) := by decide +kernel
theorem dX4_init_19 : decode cX4_init 19 = .ok (.putfield 16, 3) := by decide +kernel
theorem dX4_init_22 : decode cX4_init 22 = .ok (.aload_n 0, 1) := by decide +kernel
theorem dX4_init_23 : decode cX4_init 23 = .ok (.bipush (-9), 2) := by decide +kernel
theorem dX4_init_25 : decode cX4_init 25 = .ok (.putfield 20, 3) := by decide +kernel
theorem dX4_init_28 : decode cX4_init 28 = .ok (.aload_n 0, 1) := by decide +kernel
theorem dX4_init_29 : decode cX4_init 29 = .ok (.getfield 16, 3) := by decide +kernel
theorem dX4_init_32 : decode cX4_init 32 = .ok (.iconst (-1), 1) := by decide +kernel
theorem dX4_init_33 : decode cX4_init 33 = .ok (.invokestatic 24, 3) := by decide +kernel
theorem dX4_init_36 : decode cX4_init 36 = .ok (.return_, 1) := by decide +kernel
theorem dX4_isMissing_0 : decode cX4_isMissing 0 = .ok (.aload_n 0, 1) := by decide +kernel
theorem dX4_isMissing_1 : decode cX4_isMissing 1 = .ok (.getfield 16, 3) := by decide +kernel
theorem dX4_isMissing_4 : decode cX4_isMissing 4 = .ok (.iload_n 1, 1) := by decide +kernel
theorem dX4_isMissing_5 : decode cX4_isMissing 5 = .ok (.iaload, 1) := by decide +kernel
theorem dX4_isMissing_6 : decode cX4_isMissing 6 = .ok (.iconst (-1), 1) := by decide +kernel
theorem dX4_isMissing_7 : decode cX4_isMissing 7 = .ok (.if_icmp .ne 7, 3) := by decide +kernel
theorem dX4_isMissing_10 : decode cX4_isMissing 10 = .ok (.iconst 1, 1) := by decide +kernel
theorem dX4_isMissing_11 : decode cX4_isMissing 11 = .ok (.goto 4, 3) := by decide +kernel
theorem dX4_isMissing_14 : decode cX4_isMissing 14 = .ok (.iconst 0, 1) := by decide +kernel
theorem dX4_isMissing_15 : decode cX4_isMissing 15 = .ok (.ireturn, 1) := by decide +kernel
theorem dX4_blank_0 : decode cX4_blank 0 = .ok (.aload_n 0, 1) := by decide +kernel
theorem dX4_blank_1 : decode cX4_blank 1 = .ok (.getfield 11, 3) := by decide +kernel
theorem dX4_blank_4 : decode cX4_blank 4 = .ok (.iload_n 1, 1) := by decide +kernel
theorem dX4_blank_5 : decode cX4_blank 5 = .ok (.aaload, 1) := by decide +kernel
theorem dX4_blank_6 : decode cX4_blank 6 = .ok (.iconst 0, 1) := by decide +kernel
theorem dX4_blank_7 : decode cX4_blank 7 = .ok (.invokestatic 30, 3) := by decide +kernel
theorem dX4_blank_10 : decode cX4_blank 10 = .ok (.aload_n 0, 1) := by decide +kernel
theorem dX4_blank_11 : decode cX4_blank 11 = .ok (.getfield 16, 3) := by decide +kernel
theorem dX4_blank_14 : decode cX4_blank 14 = .ok (.iload_n 1, 1) := by decide +kernel
theorem dX4_blank_15 : decode cX4_blank 15 = .ok (.iload_n 2, 1) := by decide +kernel
theorem dX4_blank_16 : decode cX4_blank 16 = .ok (.iastore, 1) := by decide +kernel
theorem dX4_blank_17 : decode cX4_blank 17 = .ok (.return_, 1) := by decide +kernel
theorem dX4_replace_0 : decode cX4_replace 0 = .ok (.aload_n 0, 1) := by decide +kernel
theorem dX4_replace_1 : decode cX4_replace 1 = .ok (.getfield 11, 3) := by decide +kernel
theorem dX4_replace_4 : decode cX4_replace 4 = .ok (.iload_n 1, 1) := by decide +kernel
theorem dX4_replace_5 : decode cX4_replace 5 = .ok (.aaload, 1) := by decide +kernel
theorem dX4_replace_6 : decode cX4_replace 6 = .ok (.iload_n 2, 1) := by decide +kernel
theorem dX4_replace_7 : decode cX4_replace 7 = .ok (.baload, 1) := by decide +kernel
theorem dX4_replace_8 : decode cX4_replace 8 = .ok (.istore 4, 2) := by decide +kernel
theorem dX4_replace_10 : decode cX4_replace 10 = .ok (.aload_n 0, 1) := by decide +kernel
theorem dX4_replace_11 : decode cX4_replace 11 = .ok (.getfield 11, 3) := by decide +kernel
theorem dX4_replace_14 : decode cX4_replace 14 = .ok (.iload_n 1, 1) := by decide +kernel
theorem dX4_replace_15 : decode cX4_replace 15 = .ok (.aaload, 1) := by decide +kernel
theorem dX4_replace_16 : decode cX4_replace 16 = .ok (.iload_n 2, 1) := by decide +kernel
theorem dX4_replace_17 : decode cX4_replace 17 = .ok (.iload_n 3, 1) := by decide +kernel
theorem dX4_replace_18 : decode cX4_replace 18 = .ok (.bastore, 1) := by decide +kernel
theorem dX4_replace_19 : decode cX4_replace 19 = .ok (.iload 4, 2) := by decide +kernel
theorem dX4_replace_21 : decode cX4_replace 21 = .ok (.ireturn, 1) := by decide +kernel
theorem dX4_holds_0 : decode cX4_holds 0 = .ok (.iload_n 2, 1) := by decide +kernel
theorem dX4_holds_1 : decode cX4_holds 1 = .ok (.ifCond .lt 33, 3) := by decide +kernel
theorem dX4_holds_4 : decode cX4_holds 4 = .ok (.iload_n 3, 1) := by decide +kernel
theorem dX4_holds_5 : decode cX4_holds 5 = .ok (.ifCond .lt 29, 3) := by decide +kernel
theorem dX4_holds_8 : decode cX4_holds 8 = .ok (.iload_n 3, 1) := by decide +kernel
theorem dX4_holds_9 : decode cX4_holds 9 = .ok (.aload_n 0, 1) := by decide +kernel
theorem dX4_holds_10 : decode cX4_holds 10 = .ok (.getfield 16, 3) := by decide +kernel
theorem dX4_holds_13 : decode cX4_holds 13 = .ok (.iload_n 1, 1) := by decide +kernel
theorem dX4_holds_14 : decode cX4_holds 14 = .ok (.iaload, 1) := by decide +kernel
theorem dX4_holds_15 : decode cX4_holds 15 = .ok (.if_icmp .gt 19, 3) := by decide +kernel
theorem dX4_holds_18 : decode cX4_holds 18 = .ok (.iload_n 2, 1) := by decide +kernel
theorem dX4_holds_19 : decode cX4_holds 19 = .ok (.aload_n 0, 1) := by decide +kernel
theorem dX4_holds_20 : decode cX4_holds 20 = .ok (.getfield 16, 3) := by decide +kernel
theorem dX4_holds_23 : decode cX4_holds 23 = .ok (.iload_n 1, 1) := by decide +kernel
theorem dX4_holds_24 : decode cX4_holds 24 = .ok (.iaload, 1) := by decide +kernel
theorem dX4_holds_25 : decode cX4_holds 25 = .ok (.iload_n 3, 1) := by decide +kernel
theorem dX4_holds_26 : decode cX4_holds 26 = .ok (.isub, 1) := by decide +kernel
theorem dX4_holds_27 : decode cX4_holds 27 = .ok (.if_icmp .gt 7, 3) := by decide +kernel
theorem dX4_holds_30 : decode cX4_holds 30 = .ok (.iconst 1, 1) := by decide +kernel
theorem dX4_holds_31 : decode cX4_holds 31 = .ok (.goto 4, 3) := by decide +kernel
theorem dX4_holds_34 : decode cX4_holds 34 = .ok (.iconst 0, 1) := by decide +kernel
theorem dX4_holds_35 : decode cX4_holds 35 = .ok (.ireturn, 1) := by decide +kernel
theorem dX4_priceOf_0 : decode cX4_priceOf 0 = .ok (.aload_n 0, 1) := by decide +kernel
theorem dX4_priceOf_1 : decode cX4_priceOf 1 = .ok (.getfield 20, 3) := by decide +kernel
theorem dX4_priceOf_4 : decode cX4_priceOf 4 = .ok (.bipush (-9), 2) := by decide +kernel
theorem dX4_priceOf_6 : decode cX4_priceOf 6 = .ok (.if_icmp .eq 14, 3) := by decide +kernel
theorem dX4_priceOf_9 : decode cX4_priceOf 9 = .ok (.aload_n 0, 1) := by decide +kernel
theorem dX4_priceOf_10 : decode cX4_priceOf 10 = .ok (.aload_n 0, 1) := by decide +kernel
theorem dX4_priceOf_11 : decode cX4_priceOf 11 = .ok (.getfield 20, 3) := by decide +kernel
theorem dX4_priceOf_14 : decode cX4_priceOf 14 = .ok (.invokevirtual 33, 3) := by decide +kernel
theorem dX4_priceOf_17 : decode cX4_priceOf 17 = .ok (.ifCond .eq 9, 3) := by decide +kernel
theorem dX4_priceOf_20 : decode cX4_priceOf 20 = .ok (.iload_n 1, 1) := by decide +kernel
theorem dX4_priceOf_21 : decode cX4_priceOf 21 = .ok (.iload_n 1, 1) := by decide +kernel
theorem dX4_priceOf_22 : decode cX4_priceOf 22 = .ok (.imul, 1) := by decide +kernel
theorem dX4_priceOf_23 : decode cX4_priceOf 23 = .ok (.iconst 4, 1) := by decide +kernel
theorem dX4_priceOf_24 : decode cX4_priceOf 24 = .ok (.imul, 1) := by decide +kernel
theorem dX4_priceOf_25 : decode cX4_priceOf 25 = .ok (.ireturn, 1) := by decide +kernel
theorem dX4_priceOf_26 : decode cX4_priceOf 26 = .ok (.aload_n 0, 1) := by decide +kernel
theorem dX4_priceOf_27 : decode cX4_priceOf 27 = .ok (.getfield 16, 3) := by decide +kernel
theorem dX4_priceOf_30 : decode cX4_priceOf 30 = .ok (.aload_n 0, 1) := by decide +kernel
theorem dX4_priceOf_31 : decode cX4_priceOf 31 = .ok (.getfield 20, 3) := by decide +kernel
theorem dX4_priceOf_34 : decode cX4_priceOf 34 = .ok (.iaload, 1) := by decide +kernel
theorem dX4_priceOf_35 : decode cX4_priceOf 35 = .ok (.ifCond .ne 5, 3) := by decide +kernel
theorem dX4_priceOf_38 : decode cX4_priceOf 38 = .ok (.iconst 0, 1) := by decide +kernel
theorem dX4_priceOf_39 : decode cX4_priceOf 39 = .ok (.ireturn, 1) := by decide +kernel
theorem dX4_priceOf_40 : decode cX4_priceOf 40 = .ok (.iconst 0, 1) := by decide +kernel
theorem dX4_priceOf_41 : decode cX4_priceOf 41 = .ok (.aload_n 0, 1) := by decide +kernel
theorem dX4_priceOf_42 : decode cX4_priceOf 42 = .ok (.getfield 11, 3) := by decide +kernel
theorem dX4_priceOf_45 : decode cX4_priceOf 45 = .ok (.aload_n 0, 1) := by decide +kernel
theorem dX4_priceOf_46 : decode cX4_priceOf 46 = .ok (.getfield 20, 3) := by decide +kernel
theorem dX4_priceOf_49 : decode cX4_priceOf 49 = .ok (.aaload, 1) := by decide +kernel
theorem dX4_priceOf_50 : decode cX4_priceOf 50 = .ok (.iload_n 1, 1) := by decide +kernel
theorem dX4_priceOf_51 : decode cX4_priceOf 51 = .ok (.aload_n 0, 1) := by decide +kernel
theorem dX4_priceOf_52 : decode cX4_priceOf 52 = .ok (.getfield 16, 3) := by decide +kernel
theorem dX4_priceOf_55 : decode cX4_priceOf 55 = .ok (.aload_n 0, 1) := by decide +kernel
theorem dX4_priceOf_56 : decode cX4_priceOf 56 = .ok (.getfield 20, 3) := by decide +kernel
theorem dX4_priceOf_59 : decode cX4_priceOf 59 = .ok (.iaload, 1) := by decide +kernel
theorem dX4_priceOf_60 : decode cX4_priceOf 60 = .ok (.iconst 1, 1) := by decide +kernel
theorem dX4_priceOf_61 : decode cX4_priceOf 61 = .ok (.isub, 1) := by decide +kernel
theorem dX4_priceOf_62 : decode cX4_priceOf 62 = .ok (.invokestatic 37, 3) := by decide +kernel
theorem dX4_priceOf_65 : decode cX4_priceOf 65 = .ok (.baload, 1) := by decide +kernel
theorem dX4_priceOf_66 : decode cX4_priceOf 66 = .ok (.invokestatic 43, 3) := by decide +kernel
theorem dX4_priceOf_69 : decode cX4_priceOf 69 = .ok (.ireturn, 1) := by decide +kernel
theorem dX5_init_0 : decode cX5_init 0 = .ok (.aload_n 0, 1) := by decide +kernel
theorem dX5_init_1 : decode cX5_init 1 = .ok (.invokespecial 3, 3) := by decide +kernel
theorem dX5_init_4 : decode cX5_init 4 = .ok (.aload_n 0, 1) := by decide +kernel
theorem dX5_init_5 : decode cX5_init 5 = .ok (.bipush 16, 2) := by decide +kernel
theorem dX5_init_7 : decode cX5_init 7 = .ok (.newarray .int, 2) := by decide +kernel
theorem dX5_init_9 : decode cX5_init 9 = .ok (.putfield 9, 3) := by decide +kernel
theorem dX5_init_12 : decode cX5_init 12 = .ok (.aload_n 0, 1) := by decide +kernel
theorem dX5_init_13 : decode cX5_init 13 = .ok (.bipush (-9), 2) := by decide +kernel
theorem dX5_init_15 : decode cX5_init 15 = .ok (.putfield 15, 3) := by decide +kernel
theorem dX5_init_18 : decode cX5_init 18 = .ok (.return_, 1) := by decide +kernel
theorem dX5_clear_0 : decode cX5_clear 0 = .ok (.aload_n 0, 1) := by decide +kernel
theorem dX5_clear_1 : decode cX5_clear 1 = .ok (.iconst 0, 1) := by decide +kernel
theorem dX5_clear_2 : decode cX5_clear 2 = .ok (.putfield 19, 3) := by decide +kernel
theorem dX5_clear_5 : decode cX5_clear 5 = .ok (.aload_n 0, 1) := by decide +kernel
theorem dX5_clear_6 : decode cX5_clear 6 = .ok (.iconst 0, 1) := by decide +kernel
theorem dX5_clear_7 : decode cX5_clear 7 = .ok (.putfield 22, 3) := by decide +kernel
theorem dX5_clear_10 : decode cX5_clear 10 = .ok (.return_, 1) := by decide +kernel
theorem dX5_goesOn_0 : decode cX5_goesOn 0 = .ok (.aload_n 0, 1) := by decide +kernel
theorem dX5_goesOn_1 : decode cX5_goesOn 1 = .ok (.getfield 19, 3) := by decide +kernel
theorem dX5_goesOn_4 : decode cX5_goesOn 4 = .ok (.iconst 1, 1) := by decide +kernel
theorem dX5_goesOn_5 : decode cX5_goesOn 5 = .ok (.if_icmp .le 7, 3) := by decide +kernel
theorem dX5_goesOn_8 : decode cX5_goesOn 8 = .ok (.iconst 1, 1) := by decide +kernel
theorem dX5_goesOn_9 : decode cX5_goesOn 9 = .ok (.goto 4, 3) := by decide +kernel
theorem dX5_goesOn_12 : decode cX5_goesOn 12 = .ok (.iconst 0, 1) := by decide +kernel
theorem dX5_goesOn_13 : decode cX5_goesOn 13 = .ok (.ireturn, 1) := by decide +kernel
theorem dX5_append_0 : decode cX5_append 0 = .ok (.aload_n 0, 1) := by decide +kernel
theorem dX5_append_1 : decode cX5_append 1 = .ok (.getfield 9, 3) := by decide +kernel
theorem dX5_append_4 : decode cX5_append 4 = .ok (.aload_n 0, 1) := by decide +kernel
theorem dX5_append_5 : decode cX5_append 5 = .ok (.getfield 19, 3) := by decide +kernel
theorem dX5_append_8 : decode cX5_append 8 = .ok (.iload_n 1, 1) := by decide +kernel
theorem dX5_append_9 : decode cX5_append 9 = .ok (.iastore, 1) := by decide +kernel
theorem dX5_append_10 : decode cX5_append 10 = .ok (.aload_n 0, 1) := by decide +kernel
theorem dX5_append_11 : decode cX5_append 11 = .ok (.dup, 1) := by decide +kernel
theorem dX5_append_12 : decode cX5_append 12 = .ok (.getfield 19, 3) := by decide +kernel
theorem dX5_append_15 : decode cX5_append 15 = .ok (.iconst 1, 1) := by decide +kernel
theorem dX5_append_16 : decode cX5_append 16 = .ok (.iadd, 1) := by decide +kernel
theorem dX5_append_17 : decode cX5_append 17 = .ok (.putfield 19, 3) := by decide +kernel
theorem dX5_append_20 : decode cX5_append 20 = .ok (.return_, 1) := by decide +kernel
theorem dX5_settle_0 : decode cX5_settle 0 = .ok (.iload_n 1, 1) := by decide +kernel
theorem dX5_settle_1 : decode cX5_settle 1 = .ok (.ifCond .eq 12, 3) := by decide +kernel
theorem dX5_settle_4 : decode cX5_settle 4 = .ok (.aload_n 0, 1) := by decide +kernel
theorem dX5_settle_5 : decode cX5_settle 5 = .ok (.getfield 9, 3) := by decide +kernel
theorem dX5_settle_8 : decode cX5_settle 8 = .ok (.iconst 0, 1) := by decide +kernel
theorem dX5_settle_9 : decode cX5_settle 9 = .ok (.iaload, 1) := by decide +kernel
theorem dX5_settle_10 : decode cX5_settle 10 = .ok (.goto 9, 3) := by decide +kernel
theorem dX5_settle_13 : decode cX5_settle 13 = .ok (.aload_n 0, 1) := by decide +kernel
theorem dX5_settle_14 : decode cX5_settle 14 = .ok (.getfield 9, 3) := by decide +kernel
theorem dX5_settle_17 : decode cX5_settle 17 = .ok (.iconst 1, 1) := by decide +kernel
theorem dX5_settle_18 : decode cX5_settle 18 = .ok (.iaload, 1) := by decide +kernel
theorem dX5_settle_19 : decode cX5_settle 19 = .ok (.istore_n 2, 1) := by decide +kernel
theorem dX5_settle_20 : decode cX5_settle 20 = .ok (.iconst 2, 1) := by decide +kernel
theorem dX5_settle_21 : decode cX5_settle 21 = .ok (.istore_n 3, 1) := by decide +kernel
theorem dX5_settle_22 : decode cX5_settle 22 = .ok (.iload_n 3, 1) := by decide +kernel
theorem dX5_settle_23 : decode cX5_settle 23 = .ok (.aload_n 0, 1) := by decide +kernel
theorem dX5_settle_24 : decode cX5_settle 24 = .ok (.getfield 19, 3) := by decide +kernel
theorem dX5_settle_27 : decode cX5_settle 27 = .ok (.if_icmp .ge 23, 3) := by decide +kernel
theorem dX5_settle_30 : decode cX5_settle 30 = .ok (.aload_n 0, 1) := by decide +kernel
theorem dX5_settle_31 : decode cX5_settle 31 = .ok (.getfield 9, 3) := by decide +kernel
theorem dX5_settle_34 : decode cX5_settle 34 = .ok (.iload_n 3, 1) := by decide +kernel
theorem dX5_settle_35 : decode cX5_settle 35 = .ok (.iconst 2, 1) := by decide +kernel
theorem dX5_settle_36 : decode cX5_settle 36 = .ok (.isub, 1) := by decide +kernel
theorem dX5_settle_37 : decode cX5_settle 37 = .ok (.aload_n 0, 1) := by decide +kernel
theorem dX5_settle_38 : decode cX5_settle 38 = .ok (.getfield 9, 3) := by decide +kernel
theorem dX5_settle_41 : decode cX5_settle 41 = .ok (.iload_n 3, 1) := by decide +kernel
theorem dX5_settle_42 : decode cX5_settle 42 = .ok (.iaload, 1) := by decide +kernel
theorem dX5_settle_43 : decode cX5_settle 43 = .ok (.iastore, 1) := by decide +kernel
theorem dX5_settle_44 : decode cX5_settle 44 = .ok (.iinc 3 1, 3) := by decide +kernel
theorem dX5_settle_47 : decode cX5_settle 47 = .ok (.goto (-25), 3) := by decide +kernel
theorem dX5_settle_50 : decode cX5_settle 50 = .ok (.aload_n 0, 1) := by decide +kernel
theorem dX5_settle_51 : decode cX5_settle 51 = .ok (.getfield 9, 3) := by decide +kernel
theorem dX5_settle_54 : decode cX5_settle 54 = .ok (.aload_n 0, 1) := by decide +kernel
theorem dX5_settle_55 : decode cX5_settle 55 = .ok (.getfield 19, 3) := by decide +kernel
theorem dX5_settle_58 : decode cX5_settle 58 = .ok (.iconst 2, 1) := by decide +kernel
theorem dX5_settle_59 : decode cX5_settle 59 = .ok (.isub, 1) := by decide +kernel
theorem dX5_settle_60 : decode cX5_settle 60 = .ok (.iload_n 2, 1) := by decide +kernel
theorem dX5_settle_61 : decode cX5_settle 61 = .ok (.iastore, 1) := by decide +kernel
theorem dX5_settle_62 : decode cX5_settle 62 = .ok (.aload_n 0, 1) := by decide +kernel
theorem dX5_settle_63 : decode cX5_settle 63 = .ok (.dup, 1) := by decide +kernel
theorem dX5_settle_64 : decode cX5_settle 64 = .ok (.getfield 19, 3) := by decide +kernel
theorem dX5_settle_67 : decode cX5_settle 67 = .ok (.iconst 1, 1) := by decide +kernel
theorem dX5_settle_68 : decode cX5_settle 68 = .ok (.isub, 1) := by decide +kernel
theorem dX5_settle_69 : decode cX5_settle 69 = .ok (.putfield 19, 3) := by decide +kernel
theorem dX5_settle_72 : decode cX5_settle 72 = .ok (.return_, 1) := by decide +kernel
theorem dX6_init_0 : decode cX6_init 0 = .ok (.aload_n 0, 1) := by decide +kernel
theorem dX6_init_1 : decode cX6_init 1 = .ok (.invokespecial 3, 3) := by decide +kernel
theorem dX6_init_4 : decode cX6_init 4 = .ok (.aload_n 0, 1) := by decide +kernel
theorem dX6_init_5 : decode cX6_init 5 = .ok (.bipush 120, 2) := by decide +kernel
theorem dX6_init_7 : decode cX6_init 7 = .ok (.newarray .int, 2) := by decide +kernel
theorem dX6_init_9 : decode cX6_init 9 = .ok (.putfield 9, 3) := by decide +kernel
theorem dX6_init_12 : decode cX6_init 12 = .ok (.aload_n 0, 1) := by decide +kernel
theorem dX6_init_13 : decode cX6_init 13 = .ok (.bipush 120, 2) := by decide +kernel
theorem dX6_init_15 : decode cX6_init 15 = .ok (.newarray .int, 2) := by decide +kernel
theorem dX6_init_17 : decode cX6_init 17 = .ok (.putfield 15, 3) := by decide +kernel
theorem dX6_init_20 : decode cX6_init 20 = .ok (.aload_n 0, 1) := by decide +kernel
theorem dX6_init_21 : decode cX6_init 21 = .ok (.bipush 120, 2) := by decide +kernel
theorem dX6_init_23 : decode cX6_init 23 = .ok (.newarray .int, 2) := by decide +kernel
theorem dX6_init_25 : decode cX6_init 25 = .ok (.putfield 18, 3) := by decide +kernel
theorem dX6_init_28 : decode cX6_init 28 = .ok (.aload_n 0, 1) := by decide +kernel
theorem dX6_init_29 : decode cX6_init 29 = .ok (.bipush 120, 2) := by decide +kernel
theorem dX6_init_31 : decode cX6_init 31 = .ok (.newarray .int, 2) := by decide +kernel
theorem dX6_init_33 : decode cX6_init 33 = .ok (.putfield 21, 3) := by decide +kernel
theorem dX6_init_36 : decode cX6_init 36 = .ok (.aload_n 0, 1) := by decide +kernel
theorem dX6_init_37 : decode cX6_init 37 = .ok (.bipush 16, 2) := by decide +kernel
theorem dX6_init_39 : decode cX6_init 39 = .ok (.newarray .int, 2) := by decide +kernel
theorem dX6_init_41 : decode cX6_init 41 = .ok (.putfield 24, 3) := by decide +kernel
theorem dX6_init_44 : decode cX6_init 44 = .ok (.return_, 1) := by decide +kernel
theorem dX6_begin_0 : decode cX6_begin 0 = .ok (.aload_n 0, 1) := by decide +kernel
theorem dX6_begin_1 : decode cX6_begin 1 = .ok (.iconst 1, 1) := by decide +kernel
theorem dX6_begin_2 : decode cX6_begin 2 = .ok (.putfield 27, 3) := by decide +kernel
theorem dX6_begin_5 : decode cX6_begin 5 = .ok (.aload_n 0, 1) := by decide +kernel
theorem dX6_begin_6 : decode cX6_begin 6 = .ok (.iload_n 1, 1) := by decide +kernel
theorem dX6_begin_7 : decode cX6_begin 7 = .ok (.putfield 31, 3) := by decide +kernel
theorem dX6_begin_10 : decode cX6_begin 10 = .ok (.aload_n 0, 1) := by decide +kernel
theorem dX6_begin_11 : decode cX6_begin 11 = .ok (.iconst 0, 1) := by decide +kernel
theorem dX6_begin_12 : decode cX6_begin 12 = .ok (.putfield 35, 3) := by decide +kernel
theorem dX6_begin_15 : decode cX6_begin 15 = .ok (.aload_n 0, 1) := by decide +kernel
theorem dX6_begin_16 : decode cX6_begin 16 = .ok (.iconst 0, 1) := by decide +kernel
theorem dX6_begin_17 : decode cX6_begin 17 = .ok (.putfield 38, 3) := by decide +kernel
theorem dX6_begin_20 : decode cX6_begin 20 = .ok (.aload_n 0, 1) := by decide +kernel
theorem dX6_begin_21 : decode cX6_begin 21 = .ok (.iconst 0, 1) := by decide +kernel
theorem dX6_begin_22 : decode cX6_begin 22 = .ok (.putfield 41, 3) := by decide +kernel
theorem dX6_begin_25 : decode cX6_begin 25 = .ok (.aload_n 0, 1) := by decide +kernel
theorem dX6_begin_26 : decode cX6_begin 26 = .ok (.getfield 24, 3) := by decide +kernel
theorem dX6_begin_29 : decode cX6_begin 29 = .ok (.iconst 0, 1) := by decide +kernel
theorem dX6_begin_30 : decode cX6_begin 30 = .ok (.invokestatic 44, 3) := by decide +kernel
theorem dX6_begin_33 : decode cX6_begin 33 = .ok (.return_, 1) := by decide +kernel
theorem dX6_isComplete_0 : decode cX6_isComplete 0 = .ok (.aload_n 0, 1) := by decide +kernel
theorem dX6_isComplete_1 : decode cX6_isComplete 1 = .ok (.getfield 27, 3) := by decide +kernel
theorem dX6_isComplete_4 : decode cX6_isComplete 4 = .ok (.ifCond .eq 25, 3) := by decide +kernel
theorem dX6_isComplete_7 : decode cX6_isComplete 7 = .ok (.aload_n 0, 1) := by decide +kernel
theorem dX6_isComplete_8 : decode cX6_isComplete 8 = .ok (.getfield 35, 3) := by decide +kernel
theorem dX6_isComplete_11 : decode cX6_isComplete 11 = .ok (.aload_n 0, 1) := by decide +kernel
theorem dX6_isComplete_12 : decode cX6_isComplete 12 = .ok (.getfield 31, 3) := by decide +kernel
theorem dX6_isComplete_15 : decode cX6_isComplete 15 = .ok (.if_icmp .ne 14, 3) := by decide +kernel
theorem dX6_isComplete_18 : decode cX6_isComplete 18 = .ok (.aload_n 0, 1) := by decide +kernel
theorem dX6_isComplete_19 : decode cX6_isComplete 19 = .ok (.getfield 41, 3) := by decide +kernel
theorem dX6_isComplete_22 : decode cX6_isComplete 22 = .ok (.ifCond .ne 7, 3) := by decide +kernel
theorem dX6_isComplete_25 : decode cX6_isComplete 25 = .ok (.iconst 1, 1) := by decide +kernel
theorem dX6_isComplete_26 : decode cX6_isComplete 26 = .ok (.goto 4, 3) := by decide +kernel
theorem dX6_isComplete_29 : decode cX6_isComplete 29 = .ok (.iconst 0, 1) := by decide +kernel
theorem dX6_isComplete_30 : decode cX6_isComplete 30 = .ok (.ireturn, 1) := by decide +kernel
theorem dX6_knows_0 : decode cX6_knows 0 = .ok (.iload_n 1, 1) := by decide +kernel
theorem dX6_knows_1 : decode cX6_knows 1 = .ok (.ifCond .lt 15, 3) := by decide +kernel
theorem dX6_knows_4 : decode cX6_knows 4 = .ok (.iload_n 1, 1) := by decide +kernel
theorem dX6_knows_5 : decode cX6_knows 5 = .ok (.aload_n 0, 1) := by decide +kernel
theorem dX6_knows_6 : decode cX6_knows 6 = .ok (.getfield 38, 3) := by decide +kernel
theorem dX6_knows_9 : decode cX6_knows 9 = .ok (.if_icmp .ge 7, 3) := by decide +kernel
theorem dX6_knows_12 : decode cX6_knows 12 = .ok (.iconst 1, 1) := by decide +kernel
theorem dX6_knows_13 : decode cX6_knows 13 = .ok (.goto 4, 3) := by decide +kernel
theorem dX6_knows_16 : decode cX6_knows 16 = .ok (.iconst 0, 1) := by decide +kernel
theorem dX6_knows_17 : decode cX6_knows 17 = .ok (.ireturn, 1) := by decide +kernel
theorem dX6_haveMet_0 : decode cX6_haveMet 0 = .ok (.aload_n 0, 1) := by decide +kernel
theorem dX6_haveMet_1 : decode cX6_haveMet 1 = .ok (.getfield 24, 3) := by decide +kernel
theorem dX6_haveMet_4 : decode cX6_haveMet 4 = .ok (.iload_n 1, 1) := by decide +kernel
theorem dX6_haveMet_5 : decode cX6_haveMet 5 = .ok (.iaload, 1) := by decide +kernel
theorem dX6_haveMet_6 : decode cX6_haveMet 6 = .ok (.iconst 1, 1) := by decide +kernel
theorem dX6_haveMet_7 : decode cX6_haveMet 7 = .ok (.iload_n 2, 1) := by decide +kernel
theorem dX6_haveMet_8 : decode cX6_haveMet 8 = .ok (.ishl, 1) := by decide +kernel
theorem dX6_haveMet_9 : decode cX6_haveMet 9 = .ok (.iand, 1) := by decide +kernel
theorem dX6_haveMet_10 : decode cX6_haveMet 10 = .ok (.ifCond .eq 7, 3) := by decide +kernel
theorem dX6_haveMet_13 : decode cX6_haveMet 13 = .ok (.iconst 1, 1) := by decide +kernel
theorem dX6_haveMet_14 : decode cX6_haveMet 14 = .ok (.goto 4, 3) := by decide +kernel
theorem dX6_haveMet_17 : decode cX6_haveMet 17 = .ok (.iconst 0, 1) := by decide +kernel
theorem dX6_haveMet_18 : decode cX6_haveMet 18 = .ok (.ireturn, 1) := by decide +kernel
theorem dX6_addBout_0 : decode cX6_addBout 0 = .ok (.aload_n 0, 1) := by decide +kernel
theorem dX6_addBout_1 : decode cX6_addBout 1 = .ok (.getfield 9, 3) := by decide +kernel
theorem dX6_addBout_4 : decode cX6_addBout 4 = .ok (.aload_n 0, 1) := by decide +kernel
theorem dX6_addBout_5 : decode cX6_addBout 5 = .ok (.getfield 38, 3) := by decide +kernel
theorem dX6_addBout_8 : decode cX6_addBout 8 = .ok (.aload_n 0, 1) := by decide +kernel
theorem dX6_addBout_9 : decode cX6_addBout 9 = .ok (.getfield 35, 3) := by decide +kernel
theorem dX6_addBout_12 : decode cX6_addBout 12 = .ok (.iastore, 1) := by decide +kernel
theorem dX6_addBout_13 : decode cX6_addBout 13 = .ok (.aload_n 0, 1) := by decide +kernel
theorem dX6_addBout_14 : decode cX6_addBout 14 = .ok (.getfield 15, 3) := by decide +kernel
theorem dX6_addBout_17 : decode cX6_addBout 17 = .ok (.aload_n 0, 1) := by decide +kernel
theorem dX6_addBout_18 : decode cX6_addBout 18 = .ok (.getfield 38, 3) := by decide +kernel
theorem dX6_addBout_21 : decode cX6_addBout 21 = .ok (.iload_n 1, 1) := by decide +kernel
theorem dX6_addBout_22 : decode cX6_addBout 22 = .ok (.iastore, 1) := by decide +kernel
theorem dX6_addBout_23 : decode cX6_addBout 23 = .ok (.aload_n 0, 1) := by decide +kernel
theorem dX6_addBout_24 : decode cX6_addBout 24 = .ok (.getfield 18, 3) := by decide +kernel
theorem dX6_addBout_27 : decode cX6_addBout 27 = .ok (.aload_n 0, 1) := by decide +kernel
theorem dX6_addBout_28 : decode cX6_addBout 28 = .ok (.getfield 38, 3) := by decide +kernel
theorem dX6_addBout_31 : decode cX6_addBout 31 = .ok (.iload_n 2, 1) := by decide +kernel
theorem dX6_addBout_32 : decode cX6_addBout 32 = .ok (.iastore, 1) := by decide +kernel
theorem dX6_addBout_33 : decode cX6_addBout 33 = .ok (.aload_n 0, 1) := by decide +kernel
theorem dX6_addBout_34 : decode cX6_addBout 34 = .ok (.getfield 21, 3) := by decide +kernel
theorem dX6_addBout_37 : decode cX6_addBout 37 = .ok (.aload_n 0, 1) := by decide +kernel
theorem dX6_addBout_38 : decode cX6_addBout 38 = .ok (.getfield 38, 3) := by decide +kernel
theorem dX6_addBout_41 : decode cX6_addBout 41 = .ok (.bipush (-9), 2) := by decide +kernel
theorem dX6_addBout_43 : decode cX6_addBout 43 = .ok (.iastore, 1) := by decide +kernel
theorem dX6_addBout_44 : decode cX6_addBout 44 = .ok (.aload_n 0, 1) := by decide +kernel
theorem dX6_addBout_45 : decode cX6_addBout 45 = .ok (.dup, 1) := by decide +kernel
theorem dX6_addBout_46 : decode cX6_addBout 46 = .ok (.getfield 38, 3) := by decide +kernel
theorem dX6_addBout_49 : decode cX6_addBout 49 = .ok (.iconst 1, 1) := by decide +kernel
theorem dX6_addBout_50 : decode cX6_addBout 50 = .ok (.iadd, 1) := by decide +kernel
theorem dX6_addBout_51 : decode cX6_addBout 51 = .ok (.putfield 38, 3) := by decide +kernel
theorem dX6_addBout_54 : decode cX6_addBout 54 = .ok (.aload_n 0, 1) := by decide +kernel
theorem dX6_addBout_55 : decode cX6_addBout 55 = .ok (.dup, 1) := by decide +kernel
theorem dX6_addBout_56 : decode cX6_addBout 56 = .ok (.getfield 41, 3) := by decide +kernel
theorem dX6_addBout_59 : decode cX6_addBout 59 = .ok (.iconst 1, 1) := by decide +kernel
theorem dX6_addBout_60 : decode cX6_addBout 60 = .ok (.iadd, 1) := by decide +kernel
theorem dX6_addBout_61 : decode cX6_addBout 61 = .ok (.putfield 41, 3) := by decide +kernel
theorem dX6_addBout_64 : decode cX6_addBout 64 = .ok (.aload_n 0, 1) := by decide +kernel
theorem dX6_addBout_65 : decode cX6_addBout 65 = .ok (.getfield 24, 3) := by decide +kernel
theorem dX6_addBout_68 : decode cX6_addBout 68 = .ok (.iload_n 1, 1) := by decide +kernel
theorem dX6_addBout_69 : decode cX6_addBout 69 = .ok (.dup2, 1) := by decide +kernel
theorem dX6_addBout_70 : decode cX6_addBout 70 = .ok (.iaload, 1) := by decide +kernel
theorem dX6_addBout_71 : decode cX6_addBout 71 = .ok (.iconst 1, 1) := by decide +kernel
theorem dX6_addBout_72 : decode cX6_addBout 72 = .ok (.iload_n 2, 1) := by decide +kernel
theorem dX6_addBout_73 : decode cX6_addBout 73 = .ok (.ishl, 1) := by decide +kernel
theorem dX6_addBout_74 : decode cX6_addBout 74 = .ok (.ior, 1) := by decide +kernel
theorem dX6_addBout_75 : decode cX6_addBout 75 = .ok (.iastore, 1) := by decide +kernel
theorem dX6_addBout_76 : decode cX6_addBout 76 = .ok (.aload_n 0, 1) := by decide +kernel
theorem dX6_addBout_77 : decode cX6_addBout 77 = .ok (.getfield 24, 3) := by decide +kernel
theorem dX6_addBout_80 : decode cX6_addBout 80 = .ok (.iload_n 2, 1) := by decide +kernel
theorem dX6_addBout_81 : decode cX6_addBout 81 = .ok (.dup2, 1) := by decide +kernel
theorem dX6_addBout_82 : decode cX6_addBout 82 = .ok (.iaload, 1) := by decide +kernel
theorem dX6_addBout_83 : decode cX6_addBout 83 = .ok (.iconst 1, 1) := by decide +kernel
theorem dX6_addBout_84 : decode cX6_addBout 84 = .ok (.iload_n 1, 1) := by decide +kernel
theorem dX6_addBout_85 : decode cX6_addBout 85 = .ok (.ishl, 1) := by decide +kernel
theorem dX6_addBout_86 : decode cX6_addBout 86 = .ok (.ior, 1) := by decide +kernel
theorem dX6_addBout_87 : decode cX6_addBout 87 = .ok (.iastore, 1) := by decide +kernel
theorem dX6_addBout_88 : decode cX6_addBout 88 = .ok (.return_, 1) := by decide +kernel
theorem dX6_loserOf_0 : decode cX6_loserOf 0 = .ok (.aload_n 0, 1) := by decide +kernel
theorem dX6_loserOf_1 : decode cX6_loserOf 1 = .ok (.getfield 21, 3) := by decide +kernel
theorem dX6_loserOf_4 : decode cX6_loserOf 4 = .ok (.iload_n 1, 1) := by decide +kernel
theorem dX6_loserOf_5 : decode cX6_loserOf 5 = .ok (.iaload, 1) := by decide +kernel
theorem dX6_loserOf_6 : decode cX6_loserOf 6 = .ok (.aload_n 0, 1) := by decide +kernel
theorem dX6_loserOf_7 : decode cX6_loserOf 7 = .ok (.getfield 15, 3) := by decide +kernel
theorem dX6_loserOf_10 : decode cX6_loserOf 10 = .ok (.iload_n 1, 1) := by decide +kernel
theorem dX6_loserOf_11 : decode cX6_loserOf 11 = .ok (.iaload, 1) := by decide +kernel
theorem dX6_loserOf_12 : decode cX6_loserOf 12 = .ok (.if_icmp .ne 12, 3) := by decide +kernel
theorem dX6_loserOf_15 : decode cX6_loserOf 15 = .ok (.aload_n 0, 1) := by decide +kernel
theorem dX6_loserOf_16 : decode cX6_loserOf 16 = .ok (.getfield 18, 3) := by decide +kernel
theorem dX6_loserOf_19 : decode cX6_loserOf 19 = .ok (.iload_n 1, 1) := by decide +kernel
theorem dX6_loserOf_20 : decode cX6_loserOf 20 = .ok (.iaload, 1) := by decide +kernel
theorem dX6_loserOf_21 : decode cX6_loserOf 21 = .ok (.goto 9, 3) := by decide +kernel
theorem dX6_loserOf_24 : decode cX6_loserOf 24 = .ok (.aload_n 0, 1) := by decide +kernel
theorem dX6_loserOf_25 : decode cX6_loserOf 25 = .ok (.getfield 15, 3) := by decide +kernel
theorem dX6_loserOf_28 : decode cX6_loserOf 28 = .ok (.iload_n 1, 1) := by decide +kernel
theorem dX6_loserOf_29 : decode cX6_loserOf 29 = .ok (.iaload, 1) := by decide +kernel
theorem dX6_loserOf_30 : decode cX6_loserOf 30 = .ok (.ireturn, 1) := by decide +kernel
theorem dX6_fact_0 : decode cX6_fact 0 = .ok (.iload_n 2, 1) := by decide +kernel
theorem dX6_fact_1 : decode cX6_fact 1 = .ok (.tableswitch 48 0 2 #[27, 34, 41], 27) := by decide +kernel
theorem dX6_fact_28 : decode cX6_fact 28 = .ok (.aload_n 0, 1) := by decide +kernel
theorem dX6_fact_29 : decode cX6_fact 29 = .ok (.getfield 9, 3) := by decide +kernel
theorem dX6_fact_32 : decode cX6_fact 32 = .ok (.iload_n 1, 1) := by decide +kernel
theorem dX6_fact_33 : decode cX6_fact 33 = .ok (.iaload, 1) := by decide +kernel
theorem dX6_fact_34 : decode cX6_fact 34 = .ok (.ireturn, 1) := by decide +kernel
theorem dX6_fact_35 : decode cX6_fact 35 = .ok (.aload_n 0, 1) := by decide +kernel
theorem dX6_fact_36 : decode cX6_fact 36 = .ok (.getfield 15, 3) := by decide +kernel
theorem dX6_fact_39 : decode cX6_fact 39 = .ok (.iload_n 1, 1) := by decide +kernel
theorem dX6_fact_40 : decode cX6_fact 40 = .ok (.iaload, 1) := by decide +kernel
theorem dX6_fact_41 : decode cX6_fact 41 = .ok (.ireturn, 1) := by decide +kernel
theorem dX6_fact_42 : decode cX6_fact 42 = .ok (.aload_n 0, 1) := by decide +kernel
theorem dX6_fact_43 : decode cX6_fact 43 = .ok (.getfield 18, 3) := by decide +kernel
theorem dX6_fact_46 : decode cX6_fact 46 = .ok (.iload_n 1, 1) := by decide +kernel
theorem dX6_fact_47 : decode cX6_fact 47 = .ok (.iaload, 1) := by decide +kernel
theorem dX6_fact_48 : decode cX6_fact 48 = .ok (.ireturn, 1) := by decide +kernel
theorem dX6_fact_49 : decode cX6_fact 49 = .ok (.aload_n 0, 1) := by decide +kernel
theorem dX6_fact_50 : decode cX6_fact 50 = .ok (.getfield 21, 3) := by decide +kernel
theorem dX6_fact_53 : decode cX6_fact 53 = .ok (.iload_n 1, 1) := by decide +kernel
theorem dX6_fact_54 : decode cX6_fact 54 = .ok (.iaload, 1) := by decide +kernel
theorem dX6_fact_55 : decode cX6_fact 55 = .ok (.ireturn, 1) := by decide +kernel
theorem dX7_init_0 : decode cX7_init 0 = .ok (.aload_n 0, 1) := by decide +kernel
theorem dX7_init_1 : decode cX7_init 1 = .ok (.invokespecial 3, 3) := by decide +kernel
theorem dX7_init_4 : decode cX7_init 4 = .ok (.aload_n 0, 1) := by decide +kernel
theorem dX7_init_5 : decode cX7_init 5 = .ok (.bipush 16, 2) := by decide +kernel
theorem dX7_init_7 : decode cX7_init 7 = .ok (.newarray .int, 2) := by decide +kernel
theorem dX7_init_9 : decode cX7_init 9 = .ok (.putfield 9, 3) := by decide +kernel
theorem dX7_init_12 : decode cX7_init 12 = .ok (.aload_n 0, 1) := by decide +kernel
theorem dX7_init_13 : decode cX7_init 13 = .ok (.bipush 16, 2) := by decide +kernel
theorem dX7_init_15 : decode cX7_init 15 = .ok (.newarray .int, 2) := by decide +kernel
theorem dX7_init_17 : decode cX7_init 17 = .ok (.putfield 15, 3) := by decide +kernel
theorem dX7_init_20 : decode cX7_init 20 = .ok (.aload_n 0, 1) := by decide +kernel
theorem dX7_init_21 : decode cX7_init 21 = .ok (.bipush 16, 2) := by decide +kernel
theorem dX7_init_23 : decode cX7_init 23 = .ok (.newarray .int, 2) := by decide +kernel
theorem dX7_init_25 : decode cX7_init 25 = .ok (.putfield 18, 3) := by decide +kernel
theorem dX7_init_28 : decode cX7_init 28 = .ok (.aload_n 0, 1) := by decide +kernel
theorem dX7_init_29 : decode cX7_init 29 = .ok (.bipush 16, 2) := by decide +kernel
theorem dX7_init_31 : decode cX7_init 31 = .ok (.newarray .int, 2) := by decide +kernel
theorem dX7_init_33 : decode cX7_init 33 = .ok (.putfield 21, 3) := by decide +kernel
theorem dX7_init_36 : decode cX7_init 36 = .ok (.aload_n 0, 1) := by decide +kernel
theorem dX7_init_37 : decode cX7_init 37 = .ok (.bipush 16, 2) := by decide +kernel
theorem dX7_init_39 : decode cX7_init 39 = .ok (.newarray .int, 2) := by decide +kernel
theorem dX7_init_41 : decode cX7_init 41 = .ok (.putfield 24, 3) := by decide +kernel
theorem dX7_init_44 : decode cX7_init 44 = .ok (.aload_n 0, 1) := by decide +kernel
theorem dX7_init_45 : decode cX7_init 45 = .ok (.bipush 16, 2) := by decide +kernel
theorem dX7_init_47 : decode cX7_init 47 = .ok (.newarray .int, 2) := by decide +kernel
theorem dX7_init_49 : decode cX7_init 49 = .ok (.putfield 27, 3) := by decide +kernel
theorem dX7_init_52 : decode cX7_init 52 = .ok (.aload_n 0, 1) := by decide +kernel
theorem dX7_init_53 : decode cX7_init 53 = .ok (.bipush 16, 2) := by decide +kernel
theorem dX7_init_55 : decode cX7_init 55 = .ok (.newarray .int, 2) := by decide +kernel
theorem dX7_init_57 : decode cX7_init 57 = .ok (.putfield 30, 3) := by decide +kernel
theorem dX7_init_60 : decode cX7_init 60 = .ok (.aload_n 0, 1) := by decide +kernel
theorem dX7_init_61 : decode cX7_init 61 = .ok (.getfield 15, 3) := by decide +kernel
theorem dX7_init_64 : decode cX7_init 64 = .ok (.bipush (-9), 2) := by decide +kernel
theorem dX7_init_66 : decode cX7_init 66 = .ok (.invokestatic 33, 3) := by decide +kernel
theorem dX7_init_69 : decode cX7_init 69 = .ok (.aload_n 0, 1) := by decide +kernel
theorem dX7_init_70 : decode cX7_init 70 = .ok (.getfield 18, 3) := by decide +kernel
theorem dX7_init_73 : decode cX7_init 73 = .ok (.bipush (-9), 2) := by decide +kernel
theorem dX7_init_75 : decode cX7_init 75 = .ok (.invokestatic 33, 3) := by decide +kernel
theorem dX7_init_78 : decode cX7_init 78 = .ok (.aload_n 0, 1) := by decide +kernel
theorem dX7_init_79 : decode cX7_init 79 = .ok (.getfield 21, 3) := by decide +kernel
theorem dX7_init_82 : decode cX7_init 82 = .ok (.bipush (-9), 2) := by decide +kernel
theorem dX7_init_84 : decode cX7_init 84 = .ok (.invokestatic 33, 3) := by decide +kernel
theorem dX7_init_87 : decode cX7_init 87 = .ok (.aload_n 0, 1) := by decide +kernel
theorem dX7_init_88 : decode cX7_init 88 = .ok (.getfield 24, 3) := by decide +kernel
theorem dX7_init_91 : decode cX7_init 91 = .ok (.bipush (-9), 2) := by decide +kernel
theorem dX7_init_93 : decode cX7_init 93 = .ok (.invokestatic 33, 3) := by decide +kernel
theorem dX7_init_96 : decode cX7_init 96 = .ok (.return_, 1) := by decide +kernel
theorem dX7_recall_0 : decode cX7_recall 0 = .ok (.aload_n 0, 1) := by decide +kernel
theorem dX7_recall_1 : decode cX7_recall 1 = .ok (.aload_n 1, 1) := by decide +kernel
theorem dX7_recall_2 : decode cX7_recall 2 = .ok (.getfield 39, 3) := by decide +kernel
theorem dX7_recall_5 : decode cX7_recall 5 = .ok (.putfield 45, 3) := by decide +kernel
theorem dX7_recall_8 : decode cX7_recall 8 = .ok (.aload_n 0, 1) := by decide +kernel
theorem dX7_recall_9 : decode cX7_recall 9 = .ok (.iload_n 2, 1) := by decide +kernel
theorem dX7_recall_10 : decode cX7_recall 10 = .ok (.putfield 46, 3) := by decide +kernel
theorem dX7_recall_13 : decode cX7_recall 13 = .ok (.iconst 0, 1) := by decide +kernel
theorem dX7_recall_14 : decode cX7_recall 14 = .ok (.istore_n 3, 1) := by decide +kernel
theorem dX7_recall_15 : decode cX7_recall 15 = .ok (.iload_n 3, 1) := by decide +kernel
theorem dX7_recall_16 : decode cX7_recall 16 = .ok (.aload_n 0, 1) := by decide +kernel
theorem dX7_recall_17 : decode cX7_recall 17 = .ok (.getfield 45, 3) := by decide +kernel
theorem dX7_recall_20 : decode cX7_recall 20 = .ok (.if_icmp .ge 33, 3) := by decide +kernel
theorem dX7_recall_23 : decode cX7_recall 23 = .ok (.aload_n 0, 1) := by decide +kernel
theorem dX7_recall_24 : decode cX7_recall 24 = .ok (.getfield 9, 3) := by decide +kernel
theorem dX7_recall_27 : decode cX7_recall 27 = .ok (.iload_n 3, 1) := by decide +kernel
theorem dX7_recall_28 : decode cX7_recall 28 = .ok (.aload_n 1, 1) := by decide +kernel
theorem dX7_recall_29 : decode cX7_recall 29 = .ok (.getfield 49, 3) := by decide +kernel
theorem dX7_recall_32 : decode cX7_recall 32 = .ok (.iload_n 3, 1) := by decide +kernel
theorem dX7_recall_33 : decode cX7_recall 33 = .ok (.iaload, 1) := by decide +kernel
theorem dX7_recall_34 : decode cX7_recall 34 = .ok (.iastore, 1) := by decide +kernel
theorem dX7_recall_35 : decode cX7_recall 35 = .ok (.aload_n 0, 1) := by decide +kernel
theorem dX7_recall_36 : decode cX7_recall 36 = .ok (.getfield 15, 3) := by decide +kernel
theorem dX7_recall_39 : decode cX7_recall 39 = .ok (.aload_n 1, 1) := by decide +kernel
theorem dX7_recall_40 : decode cX7_recall 40 = .ok (.getfield 49, 3) := by decide +kernel
theorem dX7_recall_43 : decode cX7_recall 43 = .ok (.iload_n 3, 1) := by decide +kernel
theorem dX7_recall_44 : decode cX7_recall 44 = .ok (.iaload, 1) := by decide +kernel
theorem dX7_recall_45 : decode cX7_recall 45 = .ok (.iload_n 3, 1) := by decide +kernel
theorem dX7_recall_46 : decode cX7_recall 46 = .ok (.iastore, 1) := by decide +kernel
theorem dX7_recall_47 : decode cX7_recall 47 = .ok (.iinc 3 1, 3) := by decide +kernel
theorem dX7_recall_50 : decode cX7_recall 50 = .ok (.goto (-35), 3) := by decide +kernel
theorem dX7_recall_53 : decode cX7_recall 53 = .ok (.aload_n 0, 1) := by decide +kernel
theorem dX7_recall_54 : decode cX7_recall 54 = .ok (.dup, 1) := by decide +kernel
theorem dX7_recall_55 : decode cX7_recall 55 = .ok (.getfield 52, 3) := by decide +kernel
theorem dX7_recall_58 : decode cX7_recall 58 = .ok (.iconst 1, 1) := by decide +kernel
theorem dX7_recall_59 : decode cX7_recall 59 = .ok (.iadd, 1) := by decide +kernel
theorem dX7_recall_60 : decode cX7_recall 60 = .ok (.putfield 52, 3) := by decide +kernel
theorem dX7_recall_63 : decode cX7_recall 63 = .ok (.aload_n 0, 1) := by decide +kernel
theorem dX7_recall_64 : decode cX7_recall 64 = .ok (.iconst 1, 1) := by decide +kernel
theorem dX7_recall_65 : decode cX7_recall 65 = .ok (.putfield 55, 3) := by decide +kernel
theorem dX7_recall_68 : decode cX7_recall 68 = .ok (.return_, 1) := by decide +kernel
theorem dX7_aimAt_0 : decode cX7_aimAt 0 = .ok (.iload_n 2, 1) := by decide +kernel
theorem dX7_aimAt_1 : decode cX7_aimAt 1 = .ok (.ifCond .le 7, 3) := by decide +kernel
theorem dX7_aimAt_4 : decode cX7_aimAt 4 = .ok (.iconst 1, 1) := by decide +kernel
theorem dX7_aimAt_5 : decode cX7_aimAt 5 = .ok (.goto 12, 3) := by decide +kernel
theorem dX7_aimAt_8 : decode cX7_aimAt 8 = .ok (.iload_n 2, 1) := by decide +kernel
theorem dX7_aimAt_9 : decode cX7_aimAt 9 = .ok (.ifCond .ge 7, 3) := by decide +kernel
theorem dX7_aimAt_12 : decode cX7_aimAt 12 = .ok (.iconst (-1), 1) := by decide +kernel
theorem dX7_aimAt_13 : decode cX7_aimAt 13 = .ok (.goto 4, 3) := by decide +kernel
theorem dX7_aimAt_16 : decode cX7_aimAt 16 = .ok (.iconst 0, 1) := by decide +kernel
theorem dX7_aimAt_17 : decode cX7_aimAt 17 = .ok (.istore_n 3, 1) := by decide +kernel
theorem dX7_aimAt_18 : decode cX7_aimAt 18 = .ok (.aload_n 0, 1) := by decide +kernel
theorem dX7_aimAt_19 : decode cX7_aimAt 19 = .ok (.getfield 30, 3) := by decide +kernel
theorem dX7_aimAt_22 : decode cX7_aimAt 22 = .ok (.iload_n 1, 1) := by decide +kernel
theorem dX7_aimAt_23 : decode cX7_aimAt 23 = .ok (.iconst 2, 1) := by decide +kernel
theorem dX7_aimAt_24 : decode cX7_aimAt 24 = .ok (.aload_n 0, 1) := by decide +kernel
theorem dX7_aimAt_25 : decode cX7_aimAt 25 = .ok (.getfield 15, 3) := by decide +kernel
theorem dX7_aimAt_28 : decode cX7_aimAt 28 = .ok (.iload_n 1, 1) := by decide +kernel
theorem dX7_aimAt_29 : decode cX7_aimAt 29 = .ok (.iaload, 1) := by decide +kernel
theorem dX7_aimAt_30 : decode cX7_aimAt 30 = .ok (.iload_n 2, 1) := by decide +kernel
theorem dX7_aimAt_31 : decode cX7_aimAt 31 = .ok (.isub, 1) := by decide +kernel
theorem dX7_aimAt_32 : decode cX7_aimAt 32 = .ok (.imul, 1) := by decide +kernel
theorem dX7_aimAt_33 : decode cX7_aimAt 33 = .ok (.iload_n 3, 1) := by decide +kernel
theorem dX7_aimAt_34 : decode cX7_aimAt 34 = .ok (.isub, 1) := by decide +kernel
theorem dX7_aimAt_35 : decode cX7_aimAt 35 = .ok (.iastore, 1) := by decide +kernel
theorem dX7_aimAt_36 : decode cX7_aimAt 36 = .ok (.return_, 1) := by decide +kernel
theorem dX7_arrange_0 : decode cX7_arrange 0 = .ok (.iconst 0, 1) := by decide +kernel
theorem dX7_arrange_1 : decode cX7_arrange 1 = .ok (.istore_n 1, 1) := by decide +kernel
theorem dX7_arrange_2 : decode cX7_arrange 2 = .ok (.iload_n 1, 1) := by decide +kernel
theorem dX7_arrange_3 : decode cX7_arrange 3 = .ok (.aload_n 0, 1) := by decide +kernel
theorem dX7_arrange_4 : decode cX7_arrange 4 = .ok (.getfield 45, 3) := by decide +kernel
theorem dX7_arrange_7 : decode cX7_arrange 7 = .ok (.if_icmp .ge 71, 3) := by decide +kernel
theorem dX7_arrange_10 : decode cX7_arrange 10 = .ok (.aload_n 0, 1) := by decide +kernel
theorem dX7_arrange_11 : decode cX7_arrange 11 = .ok (.getfield 9, 3) := by decide +kernel
theorem dX7_arrange_14 : decode cX7_arrange 14 = .ok (.iload_n 1, 1) := by decide +kernel
theorem dX7_arrange_15 : decode cX7_arrange 15 = .ok (.iaload, 1) := by decide +kernel
theorem dX7_arrange_16 : decode cX7_arrange 16 = .ok (.istore_n 2, 1) := by decide +kernel
theorem dX7_arrange_17 : decode cX7_arrange 17 = .ok (.iload_n 1, 1) := by decide +kernel
theorem dX7_arrange_18 : decode cX7_arrange 18 = .ok (.istore_n 3, 1) := by decide +kernel
theorem dX7_arrange_19 : decode cX7_arrange 19 = .ok (.iload_n 3, 1) := by decide +kernel
theorem dX7_arrange_20 : decode cX7_arrange 20 = .ok (.ifCond .le 45, 3) := by decide +kernel
theorem dX7_arrange_23 : decode cX7_arrange 23 = .ok (.aload_n 0, 1) := by decide +kernel
theorem dX7_arrange_24 : decode cX7_arrange 24 = .ok (.getfield 30, 3) := by decide +kernel
theorem dX7_arrange_27 : decode cX7_arrange 27 = .ok (.aload_n 0, 1) := by decide +kernel
theorem dX7_arrange_28 : decode cX7_arrange 28 = .ok (.getfield 27, 3) := by decide +kernel
theorem dX7_arrange_31 : decode cX7_arrange 31 = .ok (.iload_n 3, 1) := by decide +kernel
theorem dX7_arrange_32 : decode cX7_arrange 32 = .ok (.iconst 1, 1) := by decide +kernel
theorem dX7_arrange_33 : decode cX7_arrange 33 = .ok (.isub, 1) := by decide +kernel
theorem dX7_arrange_34 : decode cX7_arrange 34 = .ok (.iaload, 1) := by decide +kernel
theorem dX7_arrange_35 : decode cX7_arrange 35 = .ok (.iaload, 1) := by decide +kernel
theorem dX7_arrange_36 : decode cX7_arrange 36 = .ok (.aload_n 0, 1) := by decide +kernel
theorem dX7_arrange_37 : decode cX7_arrange 37 = .ok (.getfield 30, 3) := by decide +kernel
theorem dX7_arrange_40 : decode cX7_arrange 40 = .ok (.iload_n 2, 1) := by decide +kernel
theorem dX7_arrange_41 : decode cX7_arrange 41 = .ok (.iaload, 1) := by decide +kernel
theorem dX7_arrange_42 : decode cX7_arrange 42 = .ok (.if_icmp .le 23, 3) := by decide +kernel
theorem dX7_arrange_45 : decode cX7_arrange 45 = .ok (.aload_n 0, 1) := by decide +kernel
theorem dX7_arrange_46 : decode cX7_arrange 46 = .ok (.getfield 27, 3) := by decide +kernel
theorem dX7_arrange_49 : decode cX7_arrange 49 = .ok (.iload_n 3, 1) := by decide +kernel
theorem dX7_arrange_50 : decode cX7_arrange 50 = .ok (.aload_n 0, 1) := by decide +kernel
theorem dX7_arrange_51 : decode cX7_arrange 51 = .ok (.getfield 27, 3) := by decide +kernel
theorem dX7_arrange_54 : decode cX7_arrange 54 = .ok (.iload_n 3, 1) := by decide +kernel
theorem dX7_arrange_55 : decode cX7_arrange 55 = .ok (.iconst 1, 1) := by decide +kernel
theorem dX7_arrange_56 : decode cX7_arrange 56 = .ok (.isub, 1) := by decide +kernel
theorem dX7_arrange_57 : decode cX7_arrange 57 = .ok (.iaload, 1) := by decide +kernel
theorem dX7_arrange_58 : decode cX7_arrange 58 = .ok (.iastore, 1) := by decide +kernel
theorem dX7_arrange_59 : decode cX7_arrange 59 = .ok (.iinc 3 (-1), 3) := by decide +kernel
theorem dX7_arrange_62 : decode cX7_arrange 62 = .ok (.goto (-43), 3) := by decide +kernel
theorem dX7_arrange_65 : decode cX7_arrange 65 = .ok (.aload_n 0, 1) := by decide +kernel
theorem dX7_arrange_66 : decode cX7_arrange 66 = .ok (.getfield 27, 3) := by decide +kernel
theorem dX7_arrange_69 : decode cX7_arrange 69 = .ok (.iload_n 3, 1) := by decide +kernel
theorem dX7_arrange_70 : decode cX7_arrange 70 = .ok (.iload_n 2, 1) := by decide +kernel
theorem dX7_arrange_71 : decode cX7_arrange 71 = .ok (.iastore, 1) := by decide +kernel
theorem dX7_arrange_72 : decode cX7_arrange 72 = .ok (.iinc 1 1, 3) := by decide +kernel
theorem dX7_arrange_75 : decode cX7_arrange 75 = .ok (.goto (-73), 3) := by decide +kernel
theorem dX7_arrange_78 : decode cX7_arrange 78 = .ok (.return_, 1) := by decide +kernel
theorem dX7_differing_0 : decode cX7_differing 0 = .ok (.iconst 0, 1) := by decide +kernel
theorem dX7_differing_1 : decode cX7_differing 1 = .ok (.istore_n 2, 1) := by decide +kernel
theorem dX7_differing_2 : decode cX7_differing 2 = .ok (.iconst 0, 1) := by decide +kernel
theorem dX7_differing_3 : decode cX7_differing 3 = .ok (.istore_n 3, 1) := by decide +kernel
theorem dX7_differing_4 : decode cX7_differing 4 = .ok (.iload_n 3, 1) := by decide +kernel
theorem dX7_differing_5 : decode cX7_differing 5 = .ok (.aload_n 0, 1) := by decide +kernel
theorem dX7_differing_6 : decode cX7_differing 6 = .ok (.getfield 45, 3) := by decide +kernel
theorem dX7_differing_9 : decode cX7_differing 9 = .ok (.if_icmp .ge 34, 3) := by decide +kernel
theorem dX7_differing_12 : decode cX7_differing 12 = .ok (.aload_n 0, 1) := by decide +kernel
theorem dX7_differing_13 : decode cX7_differing 13 = .ok (.getfield 9, 3) := by decide +kernel
theorem dX7_differing_16 : decode cX7_differing 16 = .ok (.iload_n 3, 1) := by decide +kernel
theorem dX7_differing_17 : decode cX7_differing 17 = .ok (.iaload, 1) := by decide +kernel
theorem dX7_differing_18 : decode cX7_differing 18 = .ok (.istore 4, 2) := by decide +kernel
theorem dX7_differing_20 : decode cX7_differing 20 = .ok (.aload_n 1, 1) := by decide +kernel
theorem dX7_differing_21 : decode cX7_differing 21 = .ok (.iload 4, 2) := by decide +kernel
theorem dX7_differing_23 : decode cX7_differing 23 = .ok (.iaload, 1) := by decide +kernel
theorem dX7_differing_24 : decode cX7_differing 24 = .ok (.aload_n 0, 1) := by decide +kernel
theorem dX7_differing_25 : decode cX7_differing 25 = .ok (.getfield 18, 3) := by decide +kernel
theorem dX7_differing_28 : decode cX7_differing 28 = .ok (.iload 4, 2) := by decide +kernel
theorem dX7_differing_30 : decode cX7_differing 30 = .ok (.iaload, 1) := by decide +kernel
theorem dX7_differing_31 : decode cX7_differing 31 = .ok (.if_icmp .eq 6, 3) := by decide +kernel
theorem dX7_differing_34 : decode cX7_differing 34 = .ok (.iinc 2 1, 3) := by decide +kernel
theorem dX7_differing_37 : decode cX7_differing 37 = .ok (.iinc 3 1, 3) := by decide +kernel
theorem dX7_differing_40 : decode cX7_differing 40 = .ok (.goto (-36), 3) := by decide +kernel
theorem dX7_differing_43 : decode cX7_differing 43 = .ok (.iload_n 2, 1) := by decide +kernel
theorem dX7_differing_44 : decode cX7_differing 44 = .ok (.ireturn, 1) := by decide +kernel
theorem dX7_overtook_0 : decode cX7_overtook 0 = .ok (.aload_n 0, 1) := by decide +kernel
theorem dX7_overtook_1 : decode cX7_overtook 1 = .ok (.getfield 15, 3) := by decide +kernel
theorem dX7_overtook_4 : decode cX7_overtook 4 = .ok (.iload_n 1, 1) := by decide +kernel
theorem dX7_overtook_5 : decode cX7_overtook 5 = .ok (.iaload, 1) := by decide +kernel
theorem dX7_overtook_6 : decode cX7_overtook 6 = .ok (.bipush (-9), 2) := by decide +kernel
theorem dX7_overtook_8 : decode cX7_overtook 8 = .ok (.if_icmp .eq 48, 3) := by decide +kernel
theorem dX7_overtook_11 : decode cX7_overtook 11 = .ok (.aload_n 0, 1) := by decide +kernel
theorem dX7_overtook_12 : decode cX7_overtook 12 = .ok (.getfield 15, 3) := by decide +kernel
theorem dX7_overtook_15 : decode cX7_overtook 15 = .ok (.iload_n 2, 1) := by decide +kernel
theorem dX7_overtook_16 : decode cX7_overtook 16 = .ok (.iaload, 1) := by decide +kernel
theorem dX7_overtook_17 : decode cX7_overtook 17 = .ok (.bipush (-9), 2) := by decide +kernel
theorem dX7_overtook_19 : decode cX7_overtook 19 = .ok (.if_icmp .eq 37, 3) := by decide +kernel
theorem dX7_overtook_22 : decode cX7_overtook 22 = .ok (.aload_n 0, 1) := by decide +kernel
theorem dX7_overtook_23 : decode cX7_overtook 23 = .ok (.getfield 15, 3) := by decide +kernel
theorem dX7_overtook_26 : decode cX7_overtook 26 = .ok (.iload_n 1, 1) := by decide +kernel
theorem dX7_overtook_27 : decode cX7_overtook 27 = .ok (.iaload, 1) := by decide +kernel
theorem dX7_overtook_28 : decode cX7_overtook 28 = .ok (.aload_n 0, 1) := by decide +kernel
theorem dX7_overtook_29 : decode cX7_overtook 29 = .ok (.getfield 15, 3) := by decide +kernel
theorem dX7_overtook_32 : decode cX7_overtook 32 = .ok (.iload_n 2, 1) := by decide +kernel
theorem dX7_overtook_33 : decode cX7_overtook 33 = .ok (.iaload, 1) := by decide +kernel
theorem dX7_overtook_34 : decode cX7_overtook 34 = .ok (.if_icmp .le 22, 3) := by decide +kernel
theorem dX7_overtook_37 : decode cX7_overtook 37 = .ok (.aload_n 0, 1) := by decide +kernel
theorem dX7_overtook_38 : decode cX7_overtook 38 = .ok (.getfield 18, 3) := by decide +kernel
theorem dX7_overtook_41 : decode cX7_overtook 41 = .ok (.iload_n 1, 1) := by decide +kernel
theorem dX7_overtook_42 : decode cX7_overtook 42 = .ok (.iaload, 1) := by decide +kernel
theorem dX7_overtook_43 : decode cX7_overtook 43 = .ok (.aload_n 0, 1) := by decide +kernel
theorem dX7_overtook_44 : decode cX7_overtook 44 = .ok (.getfield 18, 3) := by decide +kernel
theorem dX7_overtook_47 : decode cX7_overtook 47 = .ok (.iload_n 2, 1) := by decide +kernel
theorem dX7_overtook_48 : decode cX7_overtook 48 = .ok (.iaload, 1) := by decide +kernel
theorem dX7_overtook_49 : decode cX7_overtook 49 = .ok (.if_icmp .ge 7, 3) := by decide +kernel
theorem dX7_overtook_52 : decode cX7_overtook 52 = .ok (.iconst 1, 1) := by decide +kernel
theorem dX7_overtook_53 : decode cX7_overtook 53 = .ok (.goto 4, 3) := by decide +kernel
theorem dX7_overtook_56 : decode cX7_overtook 56 = .ok (.iconst 0, 1) := by decide +kernel
theorem dX7_overtook_57 : decode cX7_overtook 57 = .ok (.ireturn, 1) := by decide +kernel
theorem dX8_init_0 : decode cX8_init 0 = .ok (.aload_n 0, 1) := by decide +kernel
theorem dX8_init_1 : decode cX8_init 1 = .ok (.invokespecial 3, 3) := by decide +kernel
theorem dX8_init_4 : decode cX8_init 4 = .ok (.aload_n 0, 1) := by decide +kernel
theorem dX8_init_5 : decode cX8_init 5 = .ok (.new 9, 3) := by decide +kernel
theorem dX8_init_8 : decode cX8_init 8 = .ok (.dup, 1) := by decide +kernel
theorem dX8_init_9 : decode cX8_init 9 = .ok (.invokespecial 11, 3) := by decide +kernel
theorem dX8_init_12 : decode cX8_init 12 = .ok (.putfield 12, 3) := by decide +kernel
theorem dX8_init_15 : decode cX8_init 15 = .ok (.aload_n 0, 1) := by decide +kernel
theorem dX8_init_16 : decode cX8_init 16 = .ok (.new 16, 3) := by decide +kernel
theorem dX8_init_19 : decode cX8_init 19 = .ok (.dup, 1) := by decide +kernel
theorem dX8_init_20 : decode cX8_init 20 = .ok (.invokespecial 18, 3) := by decide +kernel
theorem dX8_init_23 : decode cX8_init 23 = .ok (.putfield 19, 3) := by decide +kernel
theorem dX8_init_26 : decode cX8_init 26 = .ok (.aload_n 0, 1) := by decide +kernel
theorem dX8_init_27 : decode cX8_init 27 = .ok (.new 23, 3) := by decide +kernel
theorem dX8_init_30 : decode cX8_init 30 = .ok (.dup, 1) := by decide +kernel
theorem dX8_init_31 : decode cX8_init 31 = .ok (.invokespecial 25, 3) := by decide +kernel
theorem dX8_init_34 : decode cX8_init 34 = .ok (.putfield 26, 3) := by decide +kernel
theorem dX8_init_37 : decode cX8_init 37 = .ok (.aload_n 0, 1) := by decide +kernel
theorem dX8_init_38 : decode cX8_init 38 = .ok (.new 30, 3) := by decide +kernel
theorem dX8_init_41 : decode cX8_init 41 = .ok (.dup, 1) := by decide +kernel
theorem dX8_init_42 : decode cX8_init 42 = .ok (.invokespecial 32, 3) := by decide +kernel
theorem dX8_init_45 : decode cX8_init 45 = .ok (.putfield 33, 3) := by decide +kernel
theorem dX8_init_48 : decode cX8_init 48 = .ok (.aload_n 0, 1) := by decide +kernel
theorem dX8_init_49 : decode cX8_init 49 = .ok (.new 37, 3) := by decide +kernel
theorem dX8_init_52 : decode cX8_init 52 = .ok (.dup, 1) := by decide +kernel
theorem dX8_init_53 : decode cX8_init 53 = .ok (.invokespecial 39, 3) := by decide +kernel
theorem dX8_init_56 : decode cX8_init 56 = .ok (.putfield 40, 3) := by decide +kernel
theorem dX8_init_59 : decode cX8_init 59 = .ok (.aload_n 0, 1) := by decide +kernel
theorem dX8_init_60 : decode cX8_init 60 = .ok (.new 44, 3) := by decide +kernel
theorem dX8_init_63 : decode cX8_init 63 = .ok (.dup, 1) := by decide +kernel
theorem dX8_init_64 : decode cX8_init 64 = .ok (.invokespecial 46, 3) := by decide +kernel
theorem dX8_init_67 : decode cX8_init 67 = .ok (.putfield 47, 3) := by decide +kernel
theorem dX8_init_70 : decode cX8_init 70 = .ok (.aload_n 0, 1) := by decide +kernel
theorem dX8_init_71 : decode cX8_init 71 = .ok (.new 51, 3) := by decide +kernel
theorem dX8_init_74 : decode cX8_init 74 = .ok (.dup, 1) := by decide +kernel
theorem dX8_init_75 : decode cX8_init 75 = .ok (.invokespecial 53, 3) := by decide +kernel
theorem dX8_init_78 : decode cX8_init 78 = .ok (.putfield 54, 3) := by decide +kernel
theorem dX8_init_81 : decode cX8_init 81 = .ok (.aload_n 0, 1) := by decide +kernel
theorem dX8_init_82 : decode cX8_init 82 = .ok (.new 58, 3) := by decide +kernel
theorem dX8_init_85 : decode cX8_init 85 = .ok (.dup, 1) := by decide +kernel
theorem dX8_init_86 : decode cX8_init 86 = .ok (.invokespecial 60, 3) := by decide +kernel
theorem dX8_init_89 : decode cX8_init 89 = .ok (.putfield 61, 3) := by decide +kernel
theorem dX8_init_92 : decode cX8_init 92 = .ok (.return_, 1) := by decide +kernel
theorem dX8_wrestler_0 : decode cX8_wrestler 0 = .ok (.iload_n 1, 1) := by decide +kernel
theorem dX8_wrestler_1 : decode cX8_wrestler 1 = .ok (.invokestatic 65, 3) := by decide +kernel
theorem dX8_wrestler_4 : decode cX8_wrestler 4 = .ok (.ifCond .eq 23, 3) := by decide +kernel
theorem dX8_wrestler_7 : decode cX8_wrestler 7 = .ok (.iload_n 2, 1) := by decide +kernel
theorem dX8_wrestler_8 : decode cX8_wrestler 8 = .ok (.invokestatic 69, 3) := by decide +kernel
theorem dX8_wrestler_11 : decode cX8_wrestler 11 = .ok (.ifCond .eq 16, 3) := by decide +kernel
theorem dX8_wrestler_14 : decode cX8_wrestler 14 = .ok (.iload_n 3, 1) := by decide +kernel
theorem dX8_wrestler_15 : decode cX8_wrestler 15 = .ok (.bipush (-9), 2) := by decide +kernel
theorem dX8_wrestler_17 : decode cX8_wrestler 17 = .ok (.if_icmp .eq 12, 3) := by decide +kernel
theorem dX8_wrestler_20 : decode cX8_wrestler 20 = .ok (.iload_n 3, 1) := by decide +kernel
theorem dX8_wrestler_21 : decode cX8_wrestler 21 = .ok (.invokestatic 69, 3) := by decide +kernel
theorem dX8_wrestler_24 : decode cX8_wrestler 24 = .ok (.ifCond .ne 5, 3) := by decide +kernel
theorem dX8_wrestler_27 : decode cX8_wrestler 27 = .ok (.iconst (-1), 1) := by decide +kernel
theorem dX8_wrestler_28 : decode cX8_wrestler 28 = .ok (.ireturn, 1) := by decide +kernel
theorem dX8_wrestler_29 : decode cX8_wrestler 29 = .ok (.aload_n 0, 1) := by decide +kernel
theorem dX8_wrestler_30 : decode cX8_wrestler 30 = .ok (.getfield 19, 3) := by decide +kernel
theorem dX8_wrestler_33 : decode cX8_wrestler 33 = .ok (.getfield 72, 3) := by decide +kernel
theorem dX8_wrestler_36 : decode cX8_wrestler 36 = .ok (.bipush 16, 2) := by decide +kernel
theorem dX8_wrestler_38 : decode cX8_wrestler 38 = .ok (.if_icmp .lt 6, 3) := by decide +kernel
theorem dX8_wrestler_41 : decode cX8_wrestler 41 = .ok (.bipush (-2), 2) := by decide +kernel
theorem dX8_wrestler_43 : decode cX8_wrestler 43 = .ok (.ireturn, 1) := by decide +kernel
theorem dX8_wrestler_44 : decode cX8_wrestler 44 = .ok (.aload_n 0, 1) := by decide +kernel
theorem dX8_wrestler_45 : decode cX8_wrestler 45 = .ok (.getfield 33, 3) := by decide +kernel
theorem dX8_wrestler_48 : decode cX8_wrestler 48 = .ok (.getfield 76, 3) := by decide +kernel
theorem dX8_wrestler_51 : decode cX8_wrestler 51 = .ok (.ifCond .eq 6, 3) := by decide +kernel
theorem dX8_wrestler_54 : decode cX8_wrestler 54 = .ok (.bipush (-4), 2) := by decide +kernel
theorem dX8_wrestler_56 : decode cX8_wrestler 56 = .ok (.ireturn, 1) := by decide +kernel
theorem dX8_wrestler_57 : decode cX8_wrestler 57 = .ok (.aload_n 0, 1) := by decide +kernel
theorem dX8_wrestler_58 : decode cX8_wrestler 58 = .ok (.getfield 54, 3) := by decide +kernel
theorem dX8_wrestler_61 : decode cX8_wrestler 61 = .ok (.iconst 0, 1) := by decide +kernel
theorem dX8_wrestler_62 : decode cX8_wrestler 62 = .ok (.putfield 80, 3) := by decide +kernel
theorem dX8_wrestler_65 : decode cX8_wrestler 65 = .ok (.aload_n 0, 1) := by decide +kernel
theorem dX8_wrestler_66 : decode cX8_wrestler 66 = .ok (.getfield 19, 3) := by decide +kernel
theorem dX8_wrestler_69 : decode cX8_wrestler 69 = .ok (.iload_n 1, 1) := by decide +kernel
theorem dX8_wrestler_70 : decode cX8_wrestler 70 = .ok (.iload_n 2, 1) := by decide +kernel
theorem dX8_wrestler_71 : decode cX8_wrestler 71 = .ok (.iload_n 3, 1) := by decide +kernel
theorem dX8_wrestler_72 : decode cX8_wrestler 72 = .ok (.invokevirtual 83, 3) := by decide +kernel
theorem dX8_wrestler_75 : decode cX8_wrestler 75 = .ok (.ireturn, 1) := by decide +kernel
theorem dX8_leave_0 : decode cX8_leave 0 = .ok (.aload_n 0, 1) := by decide +kernel
theorem dX8_leave_1 : decode cX8_leave 1 = .ok (.getfield 19, 3) := by decide +kernel
theorem dX8_leave_4 : decode cX8_leave 4 = .ok (.iload_n 1, 1) := by decide +kernel
theorem dX8_leave_5 : decode cX8_leave 5 = .ok (.invokevirtual 87, 3) := by decide +kernel
theorem dX8_leave_8 : decode cX8_leave 8 = .ok (.ifCond .ne 5, 3) := by decide +kernel
theorem dX8_leave_11 : decode cX8_leave 11 = .ok (.iconst (-1), 1) := by decide +kernel
theorem dX8_leave_12 : decode cX8_leave 12 = .ok (.ireturn, 1) := by decide +kernel
theorem dX8_leave_13 : decode cX8_leave 13 = .ok (.aload_n 0, 1) := by decide +kernel
theorem dX8_leave_14 : decode cX8_leave 14 = .ok (.getfield 33, 3) := by decide +kernel
theorem dX8_leave_17 : decode cX8_leave 17 = .ok (.getfield 76, 3) := by decide +kernel
theorem dX8_leave_20 : decode cX8_leave 20 = .ok (.ifCond .eq 6, 3) := by decide +kernel
theorem dX8_leave_23 : decode cX8_leave 23 = .ok (.bipush (-4), 2) := by decide +kernel
theorem dX8_leave_25 : decode cX8_leave 25 = .ok (.ireturn, 1) := by decide +kernel
theorem dX8_leave_26 : decode cX8_leave 26 = .ok (.aload_n 0, 1) := by decide +kernel
theorem dX8_leave_27 : decode cX8_leave 27 = .ok (.getfield 19, 3) := by decide +kernel
theorem dX8_leave_30 : decode cX8_leave 30 = .ok (.getfield 90, 3) := by decide +kernel
theorem dX8_leave_33 : decode cX8_leave 33 = .ok (.iload_n 1, 1) := by decide +kernel
theorem dX8_leave_34 : decode cX8_leave 34 = .ok (.baload, 1) := by decide +kernel
theorem dX8_leave_35 : decode cX8_leave 35 = .ok (.ifCond .eq 12, 3) := by decide +kernel
theorem dX8_leave_38 : decode cX8_leave 38 = .ok (.aload_n 0, 1) := by decide +kernel
theorem dX8_leave_39 : decode cX8_leave 39 = .ok (.getfield 12, 3) := by decide +kernel
theorem dX8_leave_42 : decode cX8_leave 42 = .ok (.iconst 1, 1) := by decide +kernel
theorem dX8_leave_43 : decode cX8_leave 43 = .ok (.invokevirtual 94, 3) := by decide +kernel
theorem dX8_leave_46 : decode cX8_leave 46 = .ok (.ireturn, 1) := by decide +kernel
theorem dX8_leave_47 : decode cX8_leave 47 = .ok (.aload_n 0, 1) := by decide +kernel
theorem dX8_leave_48 : decode cX8_leave 48 = .ok (.getfield 54, 3) := by decide +kernel
theorem dX8_leave_51 : decode cX8_leave 51 = .ok (.iconst 0, 1) := by decide +kernel
theorem dX8_leave_52 : decode cX8_leave 52 = .ok (.putfield 80, 3) := by decide +kernel
theorem dX8_leave_55 : decode cX8_leave 55 = .ok (.aload_n 0, 1) := by decide +kernel
theorem dX8_leave_56 : decode cX8_leave 56 = .ok (.getfield 19, 3) := by decide +kernel
theorem dX8_leave_59 : decode cX8_leave 59 = .ok (.iload_n 1, 1) := by decide +kernel
theorem dX8_leave_60 : decode cX8_leave 60 = .ok (.invokevirtual 98, 3) := by decide +kernel
theorem dX8_leave_63 : decode cX8_leave 63 = .ok (.ireturn, 1) := by decide +kernel
theorem dX8_told_0 : decode cX8_told 0 = .ok (.iload_n 2, 1) := by decide +kernel
theorem dX8_told_1 : decode cX8_told 1 = .ok (.ifCond .lt 9, 3) := by decide +kernel
theorem dX8_told_4 : decode cX8_told 4 = .ok (.iload_n 2, 1) := by decide +kernel
theorem dX8_told_5 : decode cX8_told 5 = .ok (.bipush 7, 2) := by decide +kernel
theorem dX8_told_7 : decode cX8_told 7 = .ok (.if_icmp .lt 5, 3) := by decide +kernel
theorem dX8_told_10 : decode cX8_told 10 = .ok (.iconst (-1), 1) := by decide +kernel
theorem dX8_told_11 : decode cX8_told 11 = .ok (.ireturn, 1) := by decide +kernel
theorem dX8_told_12 : decode cX8_told 12 = .ok (.aload_n 0, 1) := by decide +kernel
theorem dX8_told_13 : decode cX8_told 13 = .ok (.iload_n 1, 1) := by decide +kernel
theorem dX8_told_14 : decode cX8_told 14 = .ok (.invokevirtual 101, 3) := by decide +kernel
theorem dX8_told_17 : decode cX8_told 17 = .ok (.istore_n 3, 1) := by decide +kernel
theorem dX8_told_18 : decode cX8_told 18 = .ok (.iload_n 3, 1) := by decide +kernel
theorem dX8_told_19 : decode cX8_told 19 = .ok (.ifCond .eq 7, 3) := by decide +kernel
theorem dX8_told_22 : decode cX8_told 22 = .ok (.iload_n 3, 1) := by decide +kernel
theorem dX8_told_23 : decode cX8_told 23 = .ok (.goto 12, 3) := by decide +kernel
theorem dX8_told_26 : decode cX8_told 26 = .ok (.aload_n 0, 1) := by decide +kernel
theorem dX8_told_27 : decode cX8_told 27 = .ok (.getfield 19, 3) := by decide +kernel
theorem dX8_told_30 : decode cX8_told 30 = .ok (.iload_n 1, 1) := by decide +kernel
theorem dX8_told_31 : decode cX8_told 31 = .ok (.iload_n 2, 1) := by decide +kernel
theorem dX8_told_32 : decode cX8_told 32 = .ok (.invokevirtual 104, 3) := by decide +kernel
theorem dX8_told_35 : decode cX8_told 35 = .ok (.ireturn, 1) := by decide +kernel
theorem dX8_is_0 : decode cX8_is 0 = .ok (.iload_n 2, 1) := by decide +kernel
theorem dX8_is_1 : decode cX8_is 1 = .ok (.invokestatic 65, 3) := by decide +kernel
theorem dX8_is_4 : decode cX8_is 4 = .ok (.ifCond .ne 5, 3) := by decide +kernel
theorem dX8_is_7 : decode cX8_is 7 = .ok (.iconst (-1), 1) := by decide +kernel
theorem dX8_is_8 : decode cX8_is 8 = .ok (.ireturn, 1) := by decide +kernel
theorem dX8_is_9 : decode cX8_is 9 = .ok (.aload_n 0, 1) := by decide +kernel
theorem dX8_is_10 : decode cX8_is 10 = .ok (.iload_n 1, 1) := by decide +kernel
theorem dX8_is_11 : decode cX8_is 11 = .ok (.invokevirtual 101, 3) := by decide +kernel
theorem dX8_is_14 : decode cX8_is 14 = .ok (.istore_n 3, 1) := by decide +kernel
theorem dX8_is_15 : decode cX8_is 15 = .ok (.iload_n 3, 1) := by decide +kernel
theorem dX8_is_16 : decode cX8_is 16 = .ok (.ifCond .eq 5, 3) := by decide +kernel
theorem dX8_is_19 : decode cX8_is 19 = .ok (.iload_n 3, 1) := by decide +kernel
theorem dX8_is_20 : decode cX8_is 20 = .ok (.ireturn, 1) := by decide +kernel
theorem dX8_is_21 : decode cX8_is 21 = .ok (.aload_n 0, 1) := by decide +kernel
theorem dX8_is_22 : decode cX8_is 22 = .ok (.getfield 19, 3) := by decide +kernel
theorem dX8_is_25 : decode cX8_is 25 = .ok (.iload_n 1, 1) := by decide +kernel
theorem dX8_is_26 : decode cX8_is 26 = .ok (.iload_n 2, 1) := by decide +kernel
theorem dX8_is_27 : decode cX8_is 27 = .ok (.invokevirtual 108, 3) := by decide +kernel
theorem dX8_is_30 : decode cX8_is 30 = .ok (.ifCond .eq 7, 3) := by decide +kernel
theorem dX8_is_33 : decode cX8_is 33 = .ok (.iconst 1, 1) := by decide +kernel
theorem dX8_is_34 : decode cX8_is 34 = .ok (.goto 4, 3) := by decide +kernel
theorem dX8_is_37 : decode cX8_is 37 = .ok (.iconst 0, 1) := by decide +kernel
theorem dX8_is_38 : decode cX8_is 38 = .ok (.ireturn, 1) := by decide +kernel
theorem dX8_on_0 : decode cX8_on 0 = .ok (.iload_n 1, 1) := by decide +kernel
theorem dX8_on_1 : decode cX8_on 1 = .ok (.ifCond .lt 14, 3) := by decide +kernel
theorem dX8_on_4 : decode cX8_on 4 = .ok (.iload_n 1, 1) := by decide +kernel
theorem dX8_on_5 : decode cX8_on 5 = .ok (.aload_n 0, 1) := by decide +kernel
theorem dX8_on_6 : decode cX8_on 6 = .ok (.getfield 19, 3) := by decide +kernel
theorem dX8_on_9 : decode cX8_on 9 = .ok (.getfield 112, 3) := by decide +kernel
theorem dX8_on_12 : decode cX8_on 12 = .ok (.if_icmp .lt 6, 3) := by decide +kernel
theorem dX8_on_15 : decode cX8_on 15 = .ok (.bipush (-9), 2) := by decide +kernel
theorem dX8_on_17 : decode cX8_on 17 = .ok (.ireturn, 1) := by decide +kernel
theorem dX8_on_18 : decode cX8_on 18 = .ok (.aload_n 0, 1) := by decide +kernel
theorem dX8_on_19 : decode cX8_on 19 = .ok (.getfield 19, 3) := by decide +kernel
theorem dX8_on_22 : decode cX8_on 22 = .ok (.getfield 115, 3) := by decide +kernel
theorem dX8_on_25 : decode cX8_on 25 = .ok (.iload_n 1, 1) := by decide +kernel
theorem dX8_on_26 : decode cX8_on 26 = .ok (.iaload, 1) := by decide +kernel
theorem dX8_on_27 : decode cX8_on 27 = .ok (.ireturn, 1) := by decide +kernel
theorem dX8_mark_0 : decode cX8_mark 0 = .ok (.iload_n 2, 1) := by decide +kernel
theorem dX8_mark_1 : decode cX8_mark 1 = .ok (.invokestatic 65, 3) := by decide +kernel
theorem dX8_mark_4 : decode cX8_mark 4 = .ok (.ifCond .eq 7, 3) := by decide +kernel
theorem dX8_mark_7 : decode cX8_mark 7 = .ok (.iload_n 2, 1) := by decide +kernel
theorem dX8_mark_8 : decode cX8_mark 8 = .ok (.ifCond .ne 5, 3) := by decide +kernel
theorem dX8_mark_11 : decode cX8_mark 11 = .ok (.iconst (-1), 1) := by decide +kernel
theorem dX8_mark_12 : decode cX8_mark 12 = .ok (.ireturn, 1) := by decide +kernel
theorem dX8_mark_13 : decode cX8_mark 13 = .ok (.aload_n 0, 1) := by decide +kernel
theorem dX8_mark_14 : decode cX8_mark 14 = .ok (.iload_n 1, 1) := by decide +kernel
theorem dX8_mark_15 : decode cX8_mark 15 = .ok (.invokevirtual 101, 3) := by decide +kernel
theorem dX8_mark_18 : decode cX8_mark 18 = .ok (.istore_n 3, 1) := by decide +kernel
theorem dX8_mark_19 : decode cX8_mark 19 = .ok (.iload_n 3, 1) := by decide +kernel
theorem dX8_mark_20 : decode cX8_mark 20 = .ok (.ifCond .eq 5, 3) := by decide +kernel
theorem dX8_mark_23 : decode cX8_mark 23 = .ok (.iload_n 3, 1) := by decide +kernel
theorem dX8_mark_24 : decode cX8_mark 24 = .ok (.ireturn, 1) := by decide +kernel
theorem dX8_mark_25 : decode cX8_mark 25 = .ok (.aload_n 0, 1) := by decide +kernel
theorem dX8_mark_26 : decode cX8_mark 26 = .ok (.getfield 19, 3) := by decide +kernel
theorem dX8_mark_29 : decode cX8_mark 29 = .ok (.iload_n 1, 1) := by decide +kernel
theorem dX8_mark_30 : decode cX8_mark 30 = .ok (.iload_n 2, 1) := by decide +kernel
theorem dX8_mark_31 : decode cX8_mark 31 = .ok (.invokevirtual 108, 3) := by decide +kernel
theorem dX8_mark_34 : decode cX8_mark 34 = .ok (.ifCond .eq 15, 3) := by decide +kernel
theorem dX8_mark_37 : decode cX8_mark 37 = .ok (.aload_n 0, 1) := by decide +kernel
theorem dX8_mark_38 : decode cX8_mark 38 = .ok (.getfield 19, 3) := by decide +kernel
theorem dX8_mark_41 : decode cX8_mark 41 = .ok (.getfield 119, 3) := by decide +kernel
theorem dX8_mark_44 : decode cX8_mark 44 = .ok (.iload_n 1, 1) := by decide +kernel
theorem dX8_mark_45 : decode cX8_mark 45 = .ok (.iaload, 1) := by decide +kernel
theorem dX8_mark_46 : decode cX8_mark 46 = .ok (.goto 11, 3) := by decide +kernel
theorem dX8_mark_49 : decode cX8_mark 49 = .ok (.aload_n 0, 1) := by decide +kernel
theorem dX8_mark_50 : decode cX8_mark 50 = .ok (.getfield 12, 3) := by decide +kernel
theorem dX8_mark_53 : decode cX8_mark 53 = .ok (.iconst 3, 1) := by decide +kernel
theorem dX8_mark_54 : decode cX8_mark 54 = .ok (.invokevirtual 94, 3) := by decide +kernel
theorem dX8_mark_57 : decode cX8_mark 57 = .ok (.ireturn, 1) := by decide +kernel
theorem dX8_mean_0 : decode cX8_mean 0 = .ok (.iload_n 1, 1) := by decide +kernel
theorem dX8_mean_1 : decode cX8_mean 1 = .ok (.invokestatic 69, 3) := by decide +kernel
theorem dX8_mean_4 : decode cX8_mean 4 = .ok (.ifCond .ne 5, 3) := by decide +kernel
theorem dX8_mean_7 : decode cX8_mean 7 = .ok (.iconst (-1), 1) := by decide +kernel
theorem dX8_mean_8 : decode cX8_mean 8 = .ok (.ireturn, 1) := by decide +kernel
theorem dX8_mean_9 : decode cX8_mean 9 = .ok (.iconst 0, 1) := by decide +kernel
theorem dX8_mean_10 : decode cX8_mean 10 = .ok (.istore_n 2, 1) := by decide +kernel
theorem dX8_mean_11 : decode cX8_mean 11 = .ok (.iconst 0, 1) := by decide +kernel
theorem dX8_mean_12 : decode cX8_mean 12 = .ok (.istore_n 3, 1) := by decide +kernel
theorem dX8_mean_13 : decode cX8_mean 13 = .ok (.iconst 0, 1) := by decide +kernel
theorem dX8_mean_14 : decode cX8_mean 14 = .ok (.istore 4, 2) := by decide +kernel
theorem dX8_mean_16 : decode cX8_mean 16 = .ok (.iload 4, 2) := by decide +kernel
theorem dX8_mean_18 : decode cX8_mean 18 = .ok (.aload_n 0, 1) := by decide +kernel
theorem dX8_mean_19 : decode cX8_mean 19 = .ok (.getfield 19, 3) := by decide +kernel
theorem dX8_mean_22 : decode cX8_mean 22 = .ok (.getfield 112, 3) := by decide +kernel
theorem dX8_mean_25 : decode cX8_mean 25 = .ok (.if_icmp .ge 51, 3) := by decide +kernel
theorem dX8_mean_28 : decode cX8_mean 28 = .ok (.aload_n 0, 1) := by decide +kernel
theorem dX8_mean_29 : decode cX8_mean 29 = .ok (.getfield 19, 3) := by decide +kernel
theorem dX8_mean_32 : decode cX8_mean 32 = .ok (.getfield 115, 3) := by decide +kernel
theorem dX8_mean_35 : decode cX8_mean 35 = .ok (.iload 4, 2) := by decide +kernel
theorem dX8_mean_37 : decode cX8_mean 37 = .ok (.iaload, 1) := by decide +kernel
theorem dX8_mean_38 : decode cX8_mean 38 = .ok (.istore 5, 2) := by decide +kernel
theorem dX8_mean_40 : decode cX8_mean 40 = .ok (.aload_n 0, 1) := by decide +kernel
theorem dX8_mean_41 : decode cX8_mean 41 = .ok (.getfield 19, 3) := by decide +kernel
theorem dX8_mean_44 : decode cX8_mean 44 = .ok (.getfield 122, 3) := by decide +kernel
theorem dX8_mean_47 : decode cX8_mean 47 = .ok (.iload 5, 2) := by decide +kernel
theorem dX8_mean_49 : decode cX8_mean 49 = .ok (.iaload, 1) := by decide +kernel
theorem dX8_mean_50 : decode cX8_mean 50 = .ok (.iload_n 1, 1) := by decide +kernel
theorem dX8_mean_51 : decode cX8_mean 51 = .ok (.if_icmp .ne 19, 3) := by decide +kernel
theorem dX8_mean_54 : decode cX8_mean 54 = .ok (.iload_n 2, 1) := by decide +kernel
theorem dX8_mean_55 : decode cX8_mean 55 = .ok (.aload_n 0, 1) := by decide +kernel
theorem dX8_mean_56 : decode cX8_mean 56 = .ok (.getfield 19, 3) := by decide +kernel
theorem dX8_mean_59 : decode cX8_mean 59 = .ok (.getfield 125, 3) := by decide +kernel
theorem dX8_mean_62 : decode cX8_mean 62 = .ok (.iload 5, 2) := by decide +kernel
theorem dX8_mean_64 : decode cX8_mean 64 = .ok (.iaload, 1) := by decide +kernel
theorem dX8_mean_65 : decode cX8_mean 65 = .ok (.iadd, 1) := by decide +kernel
theorem dX8_mean_66 : decode cX8_mean 66 = .ok (.istore_n 2, 1) := by decide +kernel
theorem dX8_mean_67 : decode cX8_mean 67 = .ok (.iinc 3 1, 3) := by decide +kernel
theorem dX8_mean_70 : decode cX8_mean 70 = .ok (.iinc 4 1, 3) := by decide +kernel
theorem dX8_mean_73 : decode cX8_mean 73 = .ok (.goto (-57), 3) := by decide +kernel
theorem dX8_mean_76 : decode cX8_mean 76 = .ok (.iload_n 3, 1) := by decide +kernel
theorem dX8_mean_77 : decode cX8_mean 77 = .ok (.ifCond .ne 14, 3) := by decide +kernel
theorem dX8_mean_80 : decode cX8_mean 80 = .ok (.aload_n 0, 1) := by decide +kernel
theorem dX8_mean_81 : decode cX8_mean 81 = .ok (.getfield 12, 3) := by decide +kernel
theorem dX8_mean_84 : decode cX8_mean 84 = .ok (.iconst 4, 1) := by decide +kernel
theorem dX8_mean_85 : decode cX8_mean 85 = .ok (.invokevirtual 94, 3) := by decide +kernel
theorem dX8_mean_88 : decode cX8_mean 88 = .ok (.goto 6, 3) := by decide +kernel
theorem dX8_mean_91 : decode cX8_mean 91 = .ok (.iload_n 2, 1) := by decide +kernel
theorem dX8_mean_92 : decode cX8_mean 92 = .ok (.iload_n 3, 1) := by decide +kernel
theorem dX8_mean_93 : decode cX8_mean 93 = .ok (.idiv, 1) := by decide +kernel
theorem dX8_mean_94 : decode cX8_mean 94 = .ok (.ireturn, 1) := by decide +kernel
theorem dX8_sheet_0 : decode cX8_sheet 0 = .ok (.iload_n 1, 1) := by decide +kernel
theorem dX8_sheet_1 : decode cX8_sheet 1 = .ok (.invokestatic 128, 3) := by decide +kernel
theorem dX8_sheet_4 : decode cX8_sheet 4 = .ok (.ifCond .eq 9, 3) := by decide +kernel
theorem dX8_sheet_7 : decode cX8_sheet 7 = .ok (.iload_n 2, 1) := by decide +kernel
theorem dX8_sheet_8 : decode cX8_sheet 8 = .ok (.bipush 16, 2) := by decide +kernel
theorem dX8_sheet_10 : decode cX8_sheet 10 = .ok (.if_icmp .le 5, 3) := by decide +kernel
theorem dX8_sheet_13 : decode cX8_sheet 13 = .ok (.iconst (-1), 1) := by decide +kernel
theorem dX8_sheet_14 : decode cX8_sheet 14 = .ok (.ireturn, 1) := by decide +kernel
theorem dX8_sheet_15 : decode cX8_sheet 15 = .ok (.iload_n 2, 1) := by decide +kernel
theorem dX8_sheet_16 : decode cX8_sheet 16 = .ok (.ifCond .ge 12, 3) := by decide +kernel
theorem dX8_sheet_19 : decode cX8_sheet 19 = .ok (.aload_n 0, 1) := by decide +kernel
theorem dX8_sheet_20 : decode cX8_sheet 20 = .ok (.getfield 12, 3) := by decide +kernel
theorem dX8_sheet_23 : decode cX8_sheet 23 = .ok (.iconst 5, 1) := by decide +kernel
theorem dX8_sheet_24 : decode cX8_sheet 24 = .ok (.invokevirtual 94, 3) := by decide +kernel
theorem dX8_sheet_27 : decode cX8_sheet 27 = .ok (.ireturn, 1) := by decide +kernel
theorem dX8_sheet_28 : decode cX8_sheet 28 = .ok (.aload_n 0, 1) := by decide +kernel
theorem dX8_sheet_29 : decode cX8_sheet 29 = .ok (.getfield 26, 3) := by decide +kernel
theorem dX8_sheet_32 : decode cX8_sheet 32 = .ok (.iload_n 1, 1) := by decide +kernel
theorem dX8_sheet_33 : decode cX8_sheet 33 = .ok (.iload_n 2, 1) := by decide +kernel
theorem dX8_sheet_34 : decode cX8_sheet 34 = .ok (.invokevirtual 131, 3) := by decide +kernel
theorem dX8_sheet_37 : decode cX8_sheet 37 = .ok (.iload_n 2, 1) := by decide +kernel
theorem dX8_sheet_38 : decode cX8_sheet 38 = .ok (.ireturn, 1) := by decide +kernel
theorem dX8_lay_0 : decode cX8_lay 0 = .ok (.iload_n 1, 1) := by decide +kernel
theorem dX8_lay_1 : decode cX8_lay 1 = .ok (.invokestatic 128, 3) := by decide +kernel
theorem dX8_lay_4 : decode cX8_lay 4 = .ok (.ifCond .ne 5, 3) := by decide +kernel
theorem dX8_lay_7 : decode cX8_lay 7 = .ok (.iconst (-1), 1) := by decide +kernel
theorem dX8_lay_8 : decode cX8_lay 8 = .ok (.ireturn, 1) := by decide +kernel
theorem dX8_lay_9 : decode cX8_lay 9 = .ok (.aload_n 0, 1) := by decide +kernel
theorem dX8_lay_10 : decode cX8_lay 10 = .ok (.getfield 26, 3) := by decide +kernel
theorem dX8_lay_13 : decode cX8_lay 13 = .ok (.iload_n 1, 1) := by decide +kernel
theorem dX8_lay_14 : decode cX8_lay 14 = .ok (.invokevirtual 135, 3) := by decide +kernel
theorem dX8_lay_17 : decode cX8_lay 17 = .ok (.ifCond .eq 12, 3) := by decide +kernel
theorem dX8_lay_20 : decode cX8_lay 20 = .ok (.aload_n 0, 1) := by decide +kernel
theorem dX8_lay_21 : decode cX8_lay 21 = .ok (.getfield 12, 3) := by decide +kernel
theorem dX8_lay_24 : decode cX8_lay 24 = .ok (.iconst 1, 1) := by decide +kernel
theorem dX8_lay_25 : decode cX8_lay 25 = .ok (.invokevirtual 94, 3) := by decide +kernel
theorem dX8_lay_28 : decode cX8_lay 28 = .ok (.ireturn, 1) := by decide +kernel
theorem dX8_lay_29 : decode cX8_lay 29 = .ok (.iload_n 2, 1) := by decide +kernel
theorem dX8_lay_30 : decode cX8_lay 30 = .ok (.ifCond .lt 16, 3) := by decide +kernel
theorem dX8_lay_33 : decode cX8_lay 33 = .ok (.iload_n 2, 1) := by decide +kernel
theorem dX8_lay_34 : decode cX8_lay 34 = .ok (.aload_n 0, 1) := by decide +kernel
theorem dX8_lay_35 : decode cX8_lay 35 = .ok (.getfield 26, 3) := by decide +kernel
theorem dX8_lay_38 : decode cX8_lay 38 = .ok (.getfield 138, 3) := by decide +kernel
theorem dX8_lay_41 : decode cX8_lay 41 = .ok (.iload_n 1, 1) := by decide +kernel
theorem dX8_lay_42 : decode cX8_lay 42 = .ok (.iaload, 1) := by decide +kernel
theorem dX8_lay_43 : decode cX8_lay 43 = .ok (.if_icmp .lt 12, 3) := by decide +kernel
theorem dX8_lay_46 : decode cX8_lay 46 = .ok (.aload_n 0, 1) := by decide +kernel
theorem dX8_lay_47 : decode cX8_lay 47 = .ok (.getfield 12, 3) := by decide +kernel
theorem dX8_lay_50 : decode cX8_lay 50 = .ok (.iconst 2, 1) := by decide +kernel
theorem dX8_lay_51 : decode cX8_lay 51 = .ok (.invokevirtual 94, 3) := by decide +kernel
theorem dX8_lay_54 : decode cX8_lay 54 = .ok (.ireturn, 1) := by decide +kernel
theorem dX8_lay_55 : decode cX8_lay 55 = .ok (.sipush 1000, 3) := by decide +kernel
theorem dX8_lay_58 : decode cX8_lay 58 = .ok (.aload_n 0, 1) := by decide +kernel
theorem dX8_lay_59 : decode cX8_lay 59 = .ok (.getfield 26, 3) := by decide +kernel
theorem dX8_lay_62 : decode cX8_lay 62 = .ok (.iload_n 1, 1) := by decide +kernel
theorem dX8_lay_63 : decode cX8_lay 63 = .ok (.iload_n 2, 1) := by decide +kernel
theorem dX8_lay_64 : decode cX8_lay 64 = .ok (.iload_n 3, 1) := by decide +kernel
theorem dX8_lay_65 : decode cX8_lay 65 = .ok (.i2b, 1) := by decide +kernel
theorem dX8_lay_66 : decode cX8_lay 66 = .ok (.invokevirtual 141, 3) := by decide +kernel
theorem dX8_lay_69 : decode cX8_lay 69 = .ok (.iadd, 1) := by decide +kernel
theorem dX8_lay_70 : decode cX8_lay 70 = .ok (.ireturn, 1) := by decide +kernel
theorem dX8_tear_0 : decode cX8_tear 0 = .ok (.iload_n 1, 1) := by decide +kernel
theorem dX8_tear_1 : decode cX8_tear 1 = .ok (.invokestatic 128, 3) := by decide +kernel
theorem dX8_tear_4 : decode cX8_tear 4 = .ok (.ifCond .ne 5, 3) := by decide +kernel
theorem dX8_tear_7 : decode cX8_tear 7 = .ok (.iconst (-1), 1) := by decide +kernel
theorem dX8_tear_8 : decode cX8_tear 8 = .ok (.ireturn, 1) := by decide +kernel
theorem dX8_tear_9 : decode cX8_tear 9 = .ok (.aload_n 0, 1) := by decide +kernel
theorem dX8_tear_10 : decode cX8_tear 10 = .ok (.getfield 26, 3) := by decide +kernel
theorem dX8_tear_13 : decode cX8_tear 13 = .ok (.iload_n 1, 1) := by decide +kernel
theorem dX8_tear_14 : decode cX8_tear 14 = .ok (.invokevirtual 135, 3) := by decide +kernel
theorem dX8_tear_17 : decode cX8_tear 17 = .ok (.ifCond .eq 12, 3) := by decide +kernel
theorem dX8_tear_20 : decode cX8_tear 20 = .ok (.aload_n 0, 1) := by decide +kernel
theorem dX8_tear_21 : decode cX8_tear 21 = .ok (.getfield 12, 3) := by decide +kernel
theorem dX8_tear_24 : decode cX8_tear 24 = .ok (.iconst 1, 1) := by decide +kernel
theorem dX8_tear_25 : decode cX8_tear 25 = .ok (.invokevirtual 94, 3) := by decide +kernel
theorem dX8_tear_28 : decode cX8_tear 28 = .ok (.ireturn, 1) := by decide +kernel
theorem dX8_tear_29 : decode cX8_tear 29 = .ok (.aload_n 0, 1) := by decide +kernel
theorem dX8_tear_30 : decode cX8_tear 30 = .ok (.getfield 26, 3) := by decide +kernel
theorem dX8_tear_33 : decode cX8_tear 33 = .ok (.getfield 138, 3) := by decide +kernel
theorem dX8_tear_36 : decode cX8_tear 36 = .ok (.iload_n 1, 1) := by decide +kernel
theorem dX8_tear_37 : decode cX8_tear 37 = .ok (.iconst (-1), 1) := by decide +kernel
theorem dX8_tear_38 : decode cX8_tear 38 = .ok (.iastore, 1) := by decide +kernel
theorem dX8_tear_39 : decode cX8_tear 39 = .ok (.iconst 1, 1) := by decide +kernel
theorem dX8_tear_40 : decode cX8_tear 40 = .ok (.ireturn, 1) := by decide +kernel
theorem dX8_copy_0 : decode cX8_copy 0 = .ok (.iload_n 1, 1) := by decide +kernel
theorem dX8_copy_1 : decode cX8_copy 1 = .ok (.invokestatic 128, 3) := by decide +kernel
theorem dX8_copy_4 : decode cX8_copy 4 = .ok (.ifCond .eq 10, 3) := by decide +kernel
theorem dX8_copy_7 : decode cX8_copy 7 = .ok (.iload_n 3, 1) := by decide +kernel
theorem dX8_copy_8 : decode cX8_copy 8 = .ok (.invokestatic 128, 3) := by decide +kernel
theorem dX8_copy_11 : decode cX8_copy 11 = .ok (.ifCond .ne 5, 3) := by decide +kernel
theorem dX8_copy_14 : decode cX8_copy 14 = .ok (.iconst (-1), 1) := by decide +kernel
theorem dX8_copy_15 : decode cX8_copy 15 = .ok (.ireturn, 1) := by decide +kernel
theorem dX8_copy_16 : decode cX8_copy 16 = .ok (.aload_n 0, 1) := by decide +kernel
theorem dX8_copy_17 : decode cX8_copy 17 = .ok (.getfield 26, 3) := by decide +kernel
theorem dX8_copy_20 : decode cX8_copy 20 = .ok (.iload_n 1, 1) := by decide +kernel
theorem dX8_copy_21 : decode cX8_copy 21 = .ok (.invokevirtual 135, 3) := by decide +kernel
theorem dX8_copy_24 : decode cX8_copy 24 = .ok (.ifCond .ne 14, 3) := by decide +kernel
theorem dX8_copy_27 : decode cX8_copy 27 = .ok (.aload_n 0, 1) := by decide +kernel
theorem dX8_copy_28 : decode cX8_copy 28 = .ok (.getfield 26, 3) := by decide +kernel
theorem dX8_copy_31 : decode cX8_copy 31 = .ok (.iload_n 3, 1) := by decide +kernel
theorem dX8_copy_32 : decode cX8_copy 32 = .ok (.invokevirtual 135, 3) := by decide +kernel
theorem dX8_copy_35 : decode cX8_copy 35 = .ok (.ifCond .eq 12, 3) := by decide +kernel
theorem dX8_copy_38 : decode cX8_copy 38 = .ok (.aload_n 0, 1) := by decide +kernel
theorem dX8_copy_39 : decode cX8_copy 39 = .ok (.getfield 12, 3) := by decide +kernel
theorem dX8_copy_42 : decode cX8_copy 42 = .ok (.iconst 1, 1) := by decide +kernel
theorem dX8_copy_43 : decode cX8_copy 43 = .ok (.invokevirtual 94, 3) := by decide +kernel
theorem dX8_copy_46 : decode cX8_copy 46 = .ok (.ireturn, 1) := by decide +kernel
theorem dX8_copy_47 : decode cX8_copy 47 = .ok (.aload_n 0, 1) := by decide +kernel
theorem dX8_copy_48 : decode cX8_copy 48 = .ok (.getfield 26, 3) := by decide +kernel
theorem dX8_copy_51 : decode cX8_copy 51 = .ok (.iload_n 1, 1) := by decide +kernel
theorem dX8_copy_52 : decode cX8_copy 52 = .ok (.iload_n 2, 1) := by decide +kernel
theorem dX8_copy_53 : decode cX8_copy 53 = .ok (.iload 5, 2) := by decide +kernel
theorem dX8_copy_55 : decode cX8_copy 55 = .ok (.invokevirtual 145, 3) := by decide +kernel
theorem dX8_copy_58 : decode cX8_copy 58 = .ok (.ifCond .eq 18, 3) := by decide +kernel
theorem dX8_copy_61 : decode cX8_copy 61 = .ok (.aload_n 0, 1) := by decide +kernel
theorem dX8_copy_62 : decode cX8_copy 62 = .ok (.getfield 26, 3) := by decide +kernel
theorem dX8_copy_65 : decode cX8_copy 65 = .ok (.iload_n 3, 1) := by decide +kernel
theorem dX8_copy_66 : decode cX8_copy 66 = .ok (.iload 4, 2) := by decide +kernel
theorem dX8_copy_68 : decode cX8_copy 68 = .ok (.iload 5, 2) := by decide +kernel
theorem dX8_copy_70 : decode cX8_copy 70 = .ok (.invokevirtual 145, 3) := by decide +kernel
theorem dX8_copy_73 : decode cX8_copy 73 = .ok (.ifCond .ne 12, 3) := by decide +kernel
theorem dX8_copy_76 : decode cX8_copy 76 = .ok (.aload_n 0, 1) := by decide +kernel
theorem dX8_copy_77 : decode cX8_copy 77 = .ok (.getfield 12, 3) := by decide +kernel
theorem dX8_copy_80 : decode cX8_copy 80 = .ok (.iconst 2, 1) := by decide +kernel
theorem dX8_copy_81 : decode cX8_copy 81 = .ok (.invokevirtual 94, 3) := by decide +kernel
theorem dX8_copy_84 : decode cX8_copy 84 = .ok (.ireturn, 1) := by decide +kernel
theorem dX8_copy_85 : decode cX8_copy 85 = .ok (.aload_n 0, 1) := by decide +kernel
theorem dX8_copy_86 : decode cX8_copy 86 = .ok (.getfield 26, 3) := by decide +kernel
theorem dX8_copy_89 : decode cX8_copy 89 = .ok (.getfield 149, 3) := by decide +kernel
theorem dX8_copy_92 : decode cX8_copy 92 = .ok (.iload_n 1, 1) := by decide +kernel
theorem dX8_copy_93 : decode cX8_copy 93 = .ok (.aaload, 1) := by decide +kernel
theorem dX8_copy_94 : decode cX8_copy 94 = .ok (.iload_n 2, 1) := by decide +kernel
theorem dX8_copy_95 : decode cX8_copy 95 = .ok (.aload_n 0, 1) := by decide +kernel
theorem dX8_copy_96 : decode cX8_copy 96 = .ok (.getfield 26, 3) := by decide +kernel
theorem dX8_copy_99 : decode cX8_copy 99 = .ok (.getfield 149, 3) := by decide +kernel
theorem dX8_copy_102 : decode cX8_copy 102 = .ok (.iload_n 3, 1) := by decide +kernel
theorem dX8_copy_103 : decode cX8_copy 103 = .ok (.aaload, 1) := by decide +kernel
theorem dX8_copy_104 : decode cX8_copy 104 = .ok (.iload 4, 2) := by decide +kernel
theorem dX8_copy_106 : decode cX8_copy 106 = .ok (.iload 5, 2) := by decide +kernel
theorem dX8_copy_108 : decode cX8_copy 108 = .ok (.invokestatic 153, 3) := by decide +kernel
theorem dX8_copy_111 : decode cX8_copy 111 = .ok (.iconst 1, 1) := by decide +kernel
theorem dX8_copy_112 : decode cX8_copy 112 = .ok (.ireturn, 1) := by decide +kernel
theorem dX8_prices_0 : decode cX8_prices 0 = .ok (.iload_n 1, 1) := by decide +kernel
theorem dX8_prices_1 : decode cX8_prices 1 = .ok (.bipush (-9), 2) := by decide +kernel
theorem dX8_prices_3 : decode cX8_prices 3 = .ok (.if_icmp .eq 12, 3) := by decide +kernel
theorem dX8_prices_6 : decode cX8_prices 6 = .ok (.iload_n 1, 1) := by decide +kernel
theorem dX8_prices_7 : decode cX8_prices 7 = .ok (.invokestatic 128, 3) := by decide +kernel
theorem dX8_prices_10 : decode cX8_prices 10 = .ok (.ifCond .ne 5, 3) := by decide +kernel
theorem dX8_prices_13 : decode cX8_prices 13 = .ok (.iconst (-1), 1) := by decide +kernel
theorem dX8_prices_14 : decode cX8_prices 14 = .ok (.ireturn, 1) := by decide +kernel
theorem dX8_prices_15 : decode cX8_prices 15 = .ok (.iload_n 1, 1) := by decide +kernel
theorem dX8_prices_16 : decode cX8_prices 16 = .ok (.bipush (-9), 2) := by decide +kernel
theorem dX8_prices_18 : decode cX8_prices 18 = .ok (.if_icmp .eq 23, 3) := by decide +kernel
theorem dX8_prices_21 : decode cX8_prices 21 = .ok (.aload_n 0, 1) := by decide +kernel
theorem dX8_prices_22 : decode cX8_prices 22 = .ok (.getfield 26, 3) := by decide +kernel
theorem dX8_prices_25 : decode cX8_prices 25 = .ok (.iload_n 1, 1) := by decide +kernel
theorem dX8_prices_26 : decode cX8_prices 26 = .ok (.invokevirtual 135, 3) := by decide +kernel
theorem dX8_prices_29 : decode cX8_prices 29 = .ok (.ifCond .eq 12, 3) := by decide +kernel
theorem dX8_prices_32 : decode cX8_prices 32 = .ok (.aload_n 0, 1) := by decide +kernel
theorem dX8_prices_33 : decode cX8_prices 33 = .ok (.getfield 12, 3) := by decide +kernel
theorem dX8_prices_36 : decode cX8_prices 36 = .ok (.iconst 1, 1) := by decide +kernel
theorem dX8_prices_37 : decode cX8_prices 37 = .ok (.invokevirtual 94, 3) := by decide +kernel
theorem dX8_prices_40 : decode cX8_prices 40 = .ok (.ireturn, 1) := by decide +kernel
theorem dX8_prices_41 : decode cX8_prices 41 = .ok (.aload_n 0, 1) := by decide +kernel
theorem dX8_prices_42 : decode cX8_prices 42 = .ok (.getfield 26, 3) := by decide +kernel
theorem dX8_prices_45 : decode cX8_prices 45 = .ok (.getfield 159, 3) := by decide +kernel
theorem dX8_prices_48 : decode cX8_prices 48 = .ok (.istore_n 2, 1) := by decide +kernel
theorem dX8_prices_49 : decode cX8_prices 49 = .ok (.aload_n 0, 1) := by decide +kernel
theorem dX8_prices_50 : decode cX8_prices 50 = .ok (.getfield 26, 3) := by decide +kernel
theorem dX8_prices_53 : decode cX8_prices 53 = .ok (.iload_n 1, 1) := by decide +kernel
theorem dX8_prices_54 : decode cX8_prices 54 = .ok (.putfield 159, 3) := by decide +kernel
theorem dX8_prices_57 : decode cX8_prices 57 = .ok (.iload_n 2, 1) := by decide +kernel
theorem dX8_prices_58 : decode cX8_prices 58 = .ok (.ireturn, 1) := by decide +kernel
theorem dX8_price_0 : decode cX8_price 0 = .ok (.iload_n 1, 1) := by decide +kernel
theorem dX8_price_1 : decode cX8_price 1 = .ok (.ifCond .lt 9, 3) := by decide +kernel
theorem dX8_price_4 : decode cX8_price 4 = .ok (.iload_n 1, 1) := by decide +kernel
theorem dX8_price_5 : decode cX8_price 5 = .ok (.bipush 15, 2) := by decide +kernel
theorem dX8_price_7 : decode cX8_price 7 = .ok (.if_icmp .le 5, 3) := by decide +kernel
theorem dX8_price_10 : decode cX8_price 10 = .ok (.iconst (-1), 1) := by decide +kernel
theorem dX8_price_11 : decode cX8_price 11 = .ok (.ireturn, 1) := by decide +kernel
theorem dX8_price_12 : decode cX8_price 12 = .ok (.aload_n 0, 1) := by decide +kernel
theorem dX8_price_13 : decode cX8_price 13 = .ok (.getfield 26, 3) := by decide +kernel
theorem dX8_price_16 : decode cX8_price 16 = .ok (.iload_n 1, 1) := by decide +kernel
theorem dX8_price_17 : decode cX8_price 17 = .ok (.invokevirtual 162, 3) := by decide +kernel
theorem dX8_price_20 : decode cX8_price 20 = .ok (.ireturn, 1) := by decide +kernel
theorem dX8_meet_0 : decode cX8_meet 0 = .ok (.iload_n 1, 1) := by decide +kernel
theorem dX8_meet_1 : decode cX8_meet 1 = .ok (.iconst 1, 1) := by decide +kernel
theorem dX8_meet_2 : decode cX8_meet 2 = .ok (.if_icmp .lt 9, 3) := by decide +kernel
theorem dX8_meet_5 : decode cX8_meet 5 = .ok (.iload_n 1, 1) := by decide +kernel
theorem dX8_meet_6 : decode cX8_meet 6 = .ok (.bipush 15, 2) := by decide +kernel
theorem dX8_meet_8 : decode cX8_meet 8 = .ok (.if_icmp .le 5, 3) := by decide +kernel
theorem dX8_meet_11 : decode cX8_meet 11 = .ok (.iconst (-1), 1) := by decide +kernel
theorem dX8_meet_12 : decode cX8_meet 12 = .ok (.ireturn, 1) := by decide +kernel
theorem dX8_meet_13 : decode cX8_meet 13 = .ok (.aload_n 0, 1) := by decide +kernel
theorem dX8_meet_14 : decode cX8_meet 14 = .ok (.getfield 33, 3) := by decide +kernel
theorem dX8_meet_17 : decode cX8_meet 17 = .ok (.getfield 76, 3) := by decide +kernel
theorem dX8_meet_20 : decode cX8_meet 20 = .ok (.ifCond .eq 6, 3) := by decide +kernel
theorem dX8_meet_23 : decode cX8_meet 23 = .ok (.bipush (-4), 2) := by decide +kernel
theorem dX8_meet_25 : decode cX8_meet 25 = .ok (.ireturn, 1) := by decide +kernel
theorem dX8_meet_26 : decode cX8_meet 26 = .ok (.aload_n 0, 1) := by decide +kernel
theorem dX8_meet_27 : decode cX8_meet 27 = .ok (.getfield 33, 3) := by decide +kernel
theorem dX8_meet_30 : decode cX8_meet 30 = .ok (.iload_n 1, 1) := by decide +kernel
theorem dX8_meet_31 : decode cX8_meet 31 = .ok (.invokevirtual 165, 3) := by decide +kernel
theorem dX8_meet_34 : decode cX8_meet 34 = .ok (.aload_n 0, 1) := by decide +kernel
theorem dX8_meet_35 : decode cX8_meet 35 = .ok (.getfield 19, 3) := by decide +kernel
theorem dX8_meet_38 : decode cX8_meet 38 = .ok (.invokevirtual 169, 3) := by decide +kernel
theorem dX8_meet_41 : decode cX8_meet 41 = .ok (.aload_n 0, 1) := by decide +kernel
theorem dX8_meet_42 : decode cX8_meet 42 = .ok (.getfield 61, 3) := by decide +kernel
theorem dX8_meet_45 : decode cX8_meet 45 = .ok (.invokevirtual 172, 3) := by decide +kernel
theorem dX8_meet_48 : decode cX8_meet 48 = .ok (.aload_n 0, 1) := by decide +kernel
theorem dX8_meet_49 : decode cX8_meet 49 = .ok (.getfield 54, 3) := by decide +kernel
theorem dX8_meet_52 : decode cX8_meet 52 = .ok (.iconst 0, 1) := by decide +kernel
theorem dX8_meet_53 : decode cX8_meet 53 = .ok (.putfield 80, 3) := by decide +kernel
theorem dX8_meet_56 : decode cX8_meet 56 = .ok (.aload_n 0, 1) := by decide +kernel
theorem dX8_meet_57 : decode cX8_meet 57 = .ok (.getfield 19, 3) := by decide +kernel
theorem dX8_meet_60 : decode cX8_meet 60 = .ok (.getfield 112, 3) := by decide +kernel
theorem dX8_meet_63 : decode cX8_meet 63 = .ok (.ireturn, 1) := by decide +kernel
theorem dX8_absent_0 : decode cX8_absent 0 = .ok (.aload_n 0, 1) := by decide +kernel
end
section
theorem dX8_absent_1 : decode cX8_absent 1 = .ok (.iload_n 1, 1) := by decide +kernel
theorem dX8_absent_2 : decode cX8_absent 2 = .ok (.invokevirtual 101, 3) := by decide +kernel
theorem dX8_absent_5 : decode cX8_absent 5 = .ok (.istore_n 3, 1) := by decide +kernel
theorem dX8_absent_6 : decode cX8_absent 6 = .ok (.iload_n 3, 1) := by decide +kernel
theorem dX8_absent_7 : decode cX8_absent 7 = .ok (.ifCond .eq 5, 3) := by decide +kernel
theorem dX8_absent_10 : decode cX8_absent 10 = .ok (.iload_n 3, 1) := by decide +kernel
theorem dX8_absent_11 : decode cX8_absent 11 = .ok (.ireturn, 1) := by decide +kernel
theorem dX8_absent_12 : decode cX8_absent 12 = .ok (.aload_n 0, 1) := by decide +kernel
theorem dX8_absent_13 : decode cX8_absent 13 = .ok (.getfield 19, 3) := by decide +kernel
theorem dX8_absent_16 : decode cX8_absent 16 = .ok (.getfield 175, 3) := by decide +kernel
theorem dX8_absent_19 : decode cX8_absent 19 = .ok (.iload_n 1, 1) := by decide +kernel
theorem dX8_absent_20 : decode cX8_absent 20 = .ok (.baload, 1) := by decide +kernel
theorem dX8_absent_21 : decode cX8_absent 21 = .ok (.istore 4, 2) := by decide +kernel
theorem dX8_absent_23 : decode cX8_absent 23 = .ok (.aload_n 0, 1) := by decide +kernel
theorem dX8_absent_24 : decode cX8_absent 24 = .ok (.getfield 19, 3) := by decide +kernel
theorem dX8_absent_27 : decode cX8_absent 27 = .ok (.getfield 175, 3) := by decide +kernel
theorem dX8_absent_30 : decode cX8_absent 30 = .ok (.iload_n 1, 1) := by decide +kernel
theorem dX8_absent_31 : decode cX8_absent 31 = .ok (.iload_n 2, 1) := by decide +kernel
theorem dX8_absent_32 : decode cX8_absent 32 = .ok (.bastore, 1) := by decide +kernel
theorem dX8_absent_33 : decode cX8_absent 33 = .ok (.iload 4, 2) := by decide +kernel
theorem dX8_absent_35 : decode cX8_absent 35 = .ok (.ifCond .eq 7, 3) := by decide +kernel
theorem dX8_absent_38 : decode cX8_absent 38 = .ok (.iconst 1, 1) := by decide +kernel
theorem dX8_absent_39 : decode cX8_absent 39 = .ok (.goto 4, 3) := by decide +kernel
theorem dX8_absent_42 : decode cX8_absent 42 = .ok (.iconst 0, 1) := by decide +kernel
theorem dX8_absent_43 : decode cX8_absent 43 = .ok (.ireturn, 1) := by decide +kernel
theorem dX8_barred_0 : decode cX8_barred 0 = .ok (.aload_n 0, 1) := by decide +kernel
theorem dX8_barred_1 : decode cX8_barred 1 = .ok (.getfield 19, 3) := by decide +kernel
theorem dX8_barred_4 : decode cX8_barred 4 = .ok (.iload_n 1, 1) := by decide +kernel
theorem dX8_barred_5 : decode cX8_barred 5 = .ok (.invokevirtual 87, 3) := by decide +kernel
theorem dX8_barred_8 : decode cX8_barred 8 = .ok (.ifCond .eq 19, 3) := by decide +kernel
theorem dX8_barred_11 : decode cX8_barred 11 = .ok (.aload_n 0, 1) := by decide +kernel
theorem dX8_barred_12 : decode cX8_barred 12 = .ok (.getfield 19, 3) := by decide +kernel
theorem dX8_barred_15 : decode cX8_barred 15 = .ok (.iload_n 2, 1) := by decide +kernel
theorem dX8_barred_16 : decode cX8_barred 16 = .ok (.invokevirtual 87, 3) := by decide +kernel
theorem dX8_barred_19 : decode cX8_barred 19 = .ok (.ifCond .eq 8, 3) := by decide +kernel
theorem dX8_barred_22 : decode cX8_barred 22 = .ok (.iload_n 1, 1) := by decide +kernel
theorem dX8_barred_23 : decode cX8_barred 23 = .ok (.iload_n 2, 1) := by decide +kernel
theorem dX8_barred_24 : decode cX8_barred 24 = .ok (.if_icmp .ne 5, 3) := by decide +kernel
theorem dX8_barred_27 : decode cX8_barred 27 = .ok (.iconst (-1), 1) := by decide +kernel
theorem dX8_barred_28 : decode cX8_barred 28 = .ok (.ireturn, 1) := by decide +kernel
theorem dX8_barred_29 : decode cX8_barred 29 = .ok (.aload_n 0, 1) := by decide +kernel
theorem dX8_barred_30 : decode cX8_barred 30 = .ok (.getfield 19, 3) := by decide +kernel
theorem dX8_barred_33 : decode cX8_barred 33 = .ok (.getfield 90, 3) := by decide +kernel
theorem dX8_barred_36 : decode cX8_barred 36 = .ok (.iload_n 1, 1) := by decide +kernel
theorem dX8_barred_37 : decode cX8_barred 37 = .ok (.baload, 1) := by decide +kernel
theorem dX8_barred_38 : decode cX8_barred 38 = .ok (.ifCond .ne 15, 3) := by decide +kernel
theorem dX8_barred_41 : decode cX8_barred 41 = .ok (.aload_n 0, 1) := by decide +kernel
theorem dX8_barred_42 : decode cX8_barred 42 = .ok (.getfield 19, 3) := by decide +kernel
theorem dX8_barred_45 : decode cX8_barred 45 = .ok (.getfield 90, 3) := by decide +kernel
theorem dX8_barred_48 : decode cX8_barred 48 = .ok (.iload_n 2, 1) := by decide +kernel
theorem dX8_barred_49 : decode cX8_barred 49 = .ok (.baload, 1) := by decide +kernel
theorem dX8_barred_50 : decode cX8_barred 50 = .ok (.ifCond .eq 12, 3) := by decide +kernel
theorem dX8_barred_53 : decode cX8_barred 53 = .ok (.aload_n 0, 1) := by decide +kernel
theorem dX8_barred_54 : decode cX8_barred 54 = .ok (.getfield 12, 3) := by decide +kernel
theorem dX8_barred_57 : decode cX8_barred 57 = .ok (.iconst 1, 1) := by decide +kernel
theorem dX8_barred_58 : decode cX8_barred 58 = .ok (.invokevirtual 94, 3) := by decide +kernel
theorem dX8_barred_61 : decode cX8_barred 61 = .ok (.ireturn, 1) := by decide +kernel
theorem dX8_barred_62 : decode cX8_barred 62 = .ok (.aload_n 0, 1) := by decide +kernel
theorem dX8_barred_63 : decode cX8_barred 63 = .ok (.iload_n 1, 1) := by decide +kernel
theorem dX8_barred_64 : decode cX8_barred 64 = .ok (.iload_n 2, 1) := by decide +kernel
theorem dX8_barred_65 : decode cX8_barred 65 = .ok (.invokevirtual 178, 3) := by decide +kernel
theorem dX8_barred_68 : decode cX8_barred 68 = .ok (.ireturn, 1) := by decide +kernel
theorem dX8_draw_0 : decode cX8_draw 0 = .ok (.aload_n 0, 1) := by decide +kernel
theorem dX8_draw_1 : decode cX8_draw 1 = .ok (.getfield 33, 3) := by decide +kernel
theorem dX8_draw_4 : decode cX8_draw 4 = .ok (.getfield 76, 3) := by decide +kernel
theorem dX8_draw_7 : decode cX8_draw 7 = .ok (.ifCond .eq 30, 3) := by decide +kernel
theorem dX8_draw_10 : decode cX8_draw 10 = .ok (.aload_n 0, 1) := by decide +kernel
theorem dX8_draw_11 : decode cX8_draw 11 = .ok (.getfield 33, 3) := by decide +kernel
theorem dX8_draw_14 : decode cX8_draw 14 = .ok (.getfield 181, 3) := by decide +kernel
theorem dX8_draw_17 : decode cX8_draw 17 = .ok (.ifCond .gt 20, 3) := by decide +kernel
theorem dX8_draw_20 : decode cX8_draw 20 = .ok (.aload_n 0, 1) := by decide +kernel
theorem dX8_draw_21 : decode cX8_draw 21 = .ok (.getfield 33, 3) := by decide +kernel
theorem dX8_draw_24 : decode cX8_draw 24 = .ok (.getfield 184, 3) := by decide +kernel
theorem dX8_draw_27 : decode cX8_draw 27 = .ok (.aload_n 0, 1) := by decide +kernel
theorem dX8_draw_28 : decode cX8_draw 28 = .ok (.getfield 33, 3) := by decide +kernel
theorem dX8_draw_31 : decode cX8_draw 31 = .ok (.getfield 187, 3) := by decide +kernel
theorem dX8_draw_34 : decode cX8_draw 34 = .ok (.if_icmp .lt 6, 3) := by decide +kernel
theorem dX8_draw_37 : decode cX8_draw 37 = .ok (.bipush (-4), 2) := by decide +kernel
theorem dX8_draw_39 : decode cX8_draw 39 = .ok (.ireturn, 1) := by decide +kernel
theorem dX8_draw_40 : decode cX8_draw 40 = .ok (.aload_n 0, 1) := by decide +kernel
theorem dX8_draw_41 : decode cX8_draw 41 = .ok (.invokevirtual 190, 3) := by decide +kernel
theorem dX8_draw_44 : decode cX8_draw 44 = .ok (.aload_n 0, 1) := by decide +kernel
theorem dX8_draw_45 : decode cX8_draw 45 = .ok (.invokevirtual 193, 3) := by decide +kernel
theorem dX8_draw_48 : decode cX8_draw 48 = .ok (.aload_n 0, 1) := by decide +kernel
theorem dX8_draw_49 : decode cX8_draw 49 = .ok (.getfield 33, 3) := by decide +kernel
theorem dX8_draw_52 : decode cX8_draw 52 = .ok (.aload_n 0, 1) := by decide +kernel
theorem dX8_draw_53 : decode cX8_draw 53 = .ok (.getfield 40, 3) := by decide +kernel
theorem dX8_draw_56 : decode cX8_draw 56 = .ok (.invokevirtual 196, 3) := by decide +kernel
theorem dX8_draw_59 : decode cX8_draw 59 = .ok (.putfield 200, 3) := by decide +kernel
theorem dX8_draw_62 : decode cX8_draw 62 = .ok (.aload_n 0, 1) := by decide +kernel
theorem dX8_draw_63 : decode cX8_draw 63 = .ok (.invokevirtual 203, 3) := by decide +kernel
theorem dX8_draw_66 : decode cX8_draw 66 = .ok (.ireturn, 1) := by decide +kernel
theorem dX8_cost_0 : decode cX8_cost 0 = .ok (.aload_n 0, 1) := by decide +kernel
theorem dX8_cost_1 : decode cX8_cost 1 = .ok (.getfield 33, 3) := by decide +kernel
theorem dX8_cost_4 : decode cX8_cost 4 = .ok (.getfield 200, 3) := by decide +kernel
theorem dX8_cost_7 : decode cX8_cost 7 = .ok (.ireturn, 1) := by decide +kernel
theorem dX8_result_0 : decode cX8_result 0 = .ok (.aload_n 0, 1) := by decide +kernel
theorem dX8_result_1 : decode cX8_result 1 = .ok (.getfield 33, 3) := by decide +kernel
theorem dX8_result_4 : decode cX8_result 4 = .ok (.iload_n 1, 1) := by decide +kernel
theorem dX8_result_5 : decode cX8_result 5 = .ok (.invokevirtual 206, 3) := by decide +kernel
theorem dX8_result_8 : decode cX8_result 8 = .ok (.ifCond .ne 5, 3) := by decide +kernel
theorem dX8_result_11 : decode cX8_result 11 = .ok (.iconst (-1), 1) := by decide +kernel
theorem dX8_result_12 : decode cX8_result 12 = .ok (.ireturn, 1) := by decide +kernel
theorem dX8_result_13 : decode cX8_result 13 = .ok (.aload_n 0, 1) := by decide +kernel
theorem dX8_result_14 : decode cX8_result 14 = .ok (.getfield 33, 3) := by decide +kernel
theorem dX8_result_17 : decode cX8_result 17 = .ok (.getfield 207, 3) := by decide +kernel
theorem dX8_result_20 : decode cX8_result 20 = .ok (.iload_n 1, 1) := by decide +kernel
theorem dX8_result_21 : decode cX8_result 21 = .ok (.iaload, 1) := by decide +kernel
theorem dX8_result_22 : decode cX8_result 22 = .ok (.bipush (-9), 2) := by decide +kernel
theorem dX8_result_24 : decode cX8_result 24 = .ok (.if_icmp .eq 6, 3) := by decide +kernel
theorem dX8_result_27 : decode cX8_result 27 = .ok (.bipush (-4), 2) := by decide +kernel
theorem dX8_result_29 : decode cX8_result 29 = .ok (.ireturn, 1) := by decide +kernel
theorem dX8_result_30 : decode cX8_result 30 = .ok (.iload_n 2, 1) := by decide +kernel
theorem dX8_result_31 : decode cX8_result 31 = .ok (.ifCond .eq 15, 3) := by decide +kernel
theorem dX8_result_34 : decode cX8_result 34 = .ok (.aload_n 0, 1) := by decide +kernel
theorem dX8_result_35 : decode cX8_result 35 = .ok (.getfield 33, 3) := by decide +kernel
theorem dX8_result_38 : decode cX8_result 38 = .ok (.getfield 210, 3) := by decide +kernel
theorem dX8_result_41 : decode cX8_result 41 = .ok (.iload_n 1, 1) := by decide +kernel
theorem dX8_result_42 : decode cX8_result 42 = .ok (.iaload, 1) := by decide +kernel
theorem dX8_result_43 : decode cX8_result 43 = .ok (.goto 12, 3) := by decide +kernel
theorem dX8_result_46 : decode cX8_result 46 = .ok (.aload_n 0, 1) := by decide +kernel
theorem dX8_result_47 : decode cX8_result 47 = .ok (.getfield 33, 3) := by decide +kernel
theorem dX8_result_50 : decode cX8_result 50 = .ok (.getfield 213, 3) := by decide +kernel
theorem dX8_result_53 : decode cX8_result 53 = .ok (.iload_n 1, 1) := by decide +kernel
theorem dX8_result_54 : decode cX8_result 54 = .ok (.iaload, 1) := by decide +kernel
theorem dX8_result_55 : decode cX8_result 55 = .ok (.istore_n 3, 1) := by decide +kernel
theorem dX8_result_56 : decode cX8_result 56 = .ok (.aload_n 0, 1) := by decide +kernel
theorem dX8_result_57 : decode cX8_result 57 = .ok (.getfield 33, 3) := by decide +kernel
theorem dX8_result_60 : decode cX8_result 60 = .ok (.getfield 207, 3) := by decide +kernel
theorem dX8_result_63 : decode cX8_result 63 = .ok (.iload_n 1, 1) := by decide +kernel
theorem dX8_result_64 : decode cX8_result 64 = .ok (.iload_n 3, 1) := by decide +kernel
theorem dX8_result_65 : decode cX8_result 65 = .ok (.iastore, 1) := by decide +kernel
theorem dX8_result_66 : decode cX8_result 66 = .ok (.aload_n 0, 1) := by decide +kernel
theorem dX8_result_67 : decode cX8_result 67 = .ok (.getfield 33, 3) := by decide +kernel
theorem dX8_result_70 : decode cX8_result 70 = .ok (.dup, 1) := by decide +kernel
theorem dX8_result_71 : decode cX8_result 71 = .ok (.getfield 181, 3) := by decide +kernel
theorem dX8_result_74 : decode cX8_result 74 = .ok (.iconst 1, 1) := by decide +kernel
theorem dX8_result_75 : decode cX8_result 75 = .ok (.isub, 1) := by decide +kernel
theorem dX8_result_76 : decode cX8_result 76 = .ok (.putfield 181, 3) := by decide +kernel
theorem dX8_result_79 : decode cX8_result 79 = .ok (.aload_n 0, 1) := by decide +kernel
theorem dX8_result_80 : decode cX8_result 80 = .ok (.getfield 19, 3) := by decide +kernel
theorem dX8_result_83 : decode cX8_result 83 = .ok (.getfield 125, 3) := by decide +kernel
theorem dX8_result_86 : decode cX8_result 86 = .ok (.iload_n 3, 1) := by decide +kernel
theorem dX8_result_87 : decode cX8_result 87 = .ok (.dup2, 1) := by decide +kernel
theorem dX8_result_88 : decode cX8_result 88 = .ok (.iaload, 1) := by decide +kernel
theorem dX8_result_89 : decode cX8_result 89 = .ok (.iconst 1, 1) := by decide +kernel
theorem dX8_result_90 : decode cX8_result 90 = .ok (.iadd, 1) := by decide +kernel
theorem dX8_result_91 : decode cX8_result 91 = .ok (.iastore, 1) := by decide +kernel
theorem dX8_result_92 : decode cX8_result 92 = .ok (.aload_n 0, 1) := by decide +kernel
theorem dX8_result_93 : decode cX8_result 93 = .ok (.getfield 19, 3) := by decide +kernel
theorem dX8_result_96 : decode cX8_result 96 = .ok (.getfield 216, 3) := by decide +kernel
theorem dX8_result_99 : decode cX8_result 99 = .ok (.aload_n 0, 1) := by decide +kernel
theorem dX8_result_100 : decode cX8_result 100 = .ok (.getfield 33, 3) := by decide +kernel
theorem dX8_result_103 : decode cX8_result 103 = .ok (.iload_n 1, 1) := by decide +kernel
theorem dX8_result_104 : decode cX8_result 104 = .ok (.invokevirtual 219, 3) := by decide +kernel
theorem dX8_result_107 : decode cX8_result 107 = .ok (.dup2, 1) := by decide +kernel
theorem dX8_result_108 : decode cX8_result 108 = .ok (.iaload, 1) := by decide +kernel
theorem dX8_result_109 : decode cX8_result 109 = .ok (.iconst 1, 1) := by decide +kernel
theorem dX8_result_110 : decode cX8_result 110 = .ok (.iadd, 1) := by decide +kernel
theorem dX8_result_111 : decode cX8_result 111 = .ok (.iastore, 1) := by decide +kernel
theorem dX8_result_112 : decode cX8_result 112 = .ok (.iconst 1, 1) := by decide +kernel
theorem dX8_result_113 : decode cX8_result 113 = .ok (.ireturn, 1) := by decide +kernel
theorem dX8_bout_0 : decode cX8_bout 0 = .ok (.aload_n 0, 1) := by decide +kernel
theorem dX8_bout_1 : decode cX8_bout 1 = .ok (.getfield 33, 3) := by decide +kernel
theorem dX8_bout_4 : decode cX8_bout 4 = .ok (.iload_n 1, 1) := by decide +kernel
theorem dX8_bout_5 : decode cX8_bout 5 = .ok (.invokevirtual 206, 3) := by decide +kernel
theorem dX8_bout_8 : decode cX8_bout 8 = .ok (.ifCond .eq 12, 3) := by decide +kernel
theorem dX8_bout_11 : decode cX8_bout 11 = .ok (.iload_n 2, 1) := by decide +kernel
theorem dX8_bout_12 : decode cX8_bout 12 = .ok (.ifCond .lt 8, 3) := by decide +kernel
theorem dX8_bout_15 : decode cX8_bout 15 = .ok (.iload_n 2, 1) := by decide +kernel
theorem dX8_bout_16 : decode cX8_bout 16 = .ok (.iconst 4, 1) := by decide +kernel
theorem dX8_bout_17 : decode cX8_bout 17 = .ok (.if_icmp .lt 5, 3) := by decide +kernel
theorem dX8_bout_20 : decode cX8_bout 20 = .ok (.iconst (-1), 1) := by decide +kernel
theorem dX8_bout_21 : decode cX8_bout 21 = .ok (.ireturn, 1) := by decide +kernel
theorem dX8_bout_22 : decode cX8_bout 22 = .ok (.aload_n 0, 1) := by decide +kernel
theorem dX8_bout_23 : decode cX8_bout 23 = .ok (.getfield 33, 3) := by decide +kernel
theorem dX8_bout_26 : decode cX8_bout 26 = .ok (.iload_n 1, 1) := by decide +kernel
theorem dX8_bout_27 : decode cX8_bout 27 = .ok (.iload_n 2, 1) := by decide +kernel
theorem dX8_bout_28 : decode cX8_bout 28 = .ok (.invokevirtual 222, 3) := by decide +kernel
theorem dX8_bout_31 : decode cX8_bout 31 = .ok (.ireturn, 1) := by decide +kernel
theorem dX8_sat_0 : decode cX8_sat 0 = .ok (.aload_n 0, 1) := by decide +kernel
theorem dX8_sat_1 : decode cX8_sat 1 = .ok (.getfield 33, 3) := by decide +kernel
theorem dX8_sat_4 : decode cX8_sat 4 = .ok (.getfield 223, 3) := by decide +kernel
theorem dX8_sat_7 : decode cX8_sat 7 = .ok (.ireturn, 1) := by decide +kernel
theorem dX8_line_0 : decode cX8_line 0 = .ok (.iload_n 1, 1) := by decide +kernel
theorem dX8_line_1 : decode cX8_line 1 = .ok (.iload_n 2, 1) := by decide +kernel
theorem dX8_line_2 : decode cX8_line 2 = .ok (.if_icmp .gt 15, 3) := by decide +kernel
theorem dX8_line_5 : decode cX8_line 5 = .ok (.iload_n 3, 1) := by decide +kernel
theorem dX8_line_6 : decode cX8_line 6 = .ok (.bipush (-15), 2) := by decide +kernel
theorem dX8_line_8 : decode cX8_line 8 = .ok (.if_icmp .lt 9, 3) := by decide +kernel
theorem dX8_line_11 : decode cX8_line 11 = .ok (.iload_n 3, 1) := by decide +kernel
theorem dX8_line_12 : decode cX8_line 12 = .ok (.bipush 15, 2) := by decide +kernel
theorem dX8_line_14 : decode cX8_line 14 = .ok (.if_icmp .le 5, 3) := by decide +kernel
theorem dX8_line_17 : decode cX8_line 17 = .ok (.iconst (-1), 1) := by decide +kernel
theorem dX8_line_18 : decode cX8_line 18 = .ok (.ireturn, 1) := by decide +kernel
theorem dX8_line_19 : decode cX8_line 19 = .ok (.aload_n 0, 1) := by decide +kernel
theorem dX8_line_20 : decode cX8_line 20 = .ok (.getfield 47, 3) := by decide +kernel
theorem dX8_line_23 : decode cX8_line 23 = .ok (.getfield 226, 3) := by decide +kernel
theorem dX8_line_26 : decode cX8_line 26 = .ok (.bipush 12, 2) := by decide +kernel
theorem dX8_line_28 : decode cX8_line 28 = .ok (.if_icmp .lt 6, 3) := by decide +kernel
theorem dX8_line_31 : decode cX8_line 31 = .ok (.bipush (-2), 2) := by decide +kernel
theorem dX8_line_33 : decode cX8_line 33 = .ok (.ireturn, 1) := by decide +kernel
theorem dX8_line_34 : decode cX8_line 34 = .ok (.aload_n 0, 1) := by decide +kernel
theorem dX8_line_35 : decode cX8_line 35 = .ok (.getfield 47, 3) := by decide +kernel
theorem dX8_line_38 : decode cX8_line 38 = .ok (.iload_n 1, 1) := by decide +kernel
theorem dX8_line_39 : decode cX8_line 39 = .ok (.iload_n 2, 1) := by decide +kernel
theorem dX8_line_40 : decode cX8_line 40 = .ok (.iload_n 3, 1) := by decide +kernel
theorem dX8_line_41 : decode cX8_line 41 = .ok (.invokevirtual 229, 3) := by decide +kernel
theorem dX8_line_44 : decode cX8_line 44 = .ok (.ireturn, 1) := by decide +kernel
theorem dX8_anew_0 : decode cX8_anew 0 = .ok (.aload_n 0, 1) := by decide +kernel
theorem dX8_anew_1 : decode cX8_anew 1 = .ok (.getfield 33, 3) := by decide +kernel
theorem dX8_anew_4 : decode cX8_anew 4 = .ok (.invokevirtual 230, 3) := by decide +kernel
theorem dX8_anew_7 : decode cX8_anew 7 = .ok (.ifCond .eq 13, 3) := by decide +kernel
theorem dX8_anew_10 : decode cX8_anew 10 = .ok (.aload_n 0, 1) := by decide +kernel
theorem dX8_anew_11 : decode cX8_anew 11 = .ok (.getfield 61, 3) := by decide +kernel
theorem dX8_anew_14 : decode cX8_anew 14 = .ok (.invokevirtual 234, 3) := by decide +kernel
theorem dX8_anew_17 : decode cX8_anew 17 = .ok (.ifCond .eq 6, 3) := by decide +kernel
theorem dX8_anew_20 : decode cX8_anew 20 = .ok (.bipush (-4), 2) := by decide +kernel
theorem dX8_anew_22 : decode cX8_anew 22 = .ok (.ireturn, 1) := by decide +kernel
theorem dX8_anew_23 : decode cX8_anew 23 = .ok (.aload_n 0, 1) := by decide +kernel
theorem dX8_anew_24 : decode cX8_anew 24 = .ok (.getfield 54, 3) := by decide +kernel
theorem dX8_anew_27 : decode cX8_anew 27 = .ok (.aload_n 0, 1) := by decide +kernel
theorem dX8_anew_28 : decode cX8_anew 28 = .ok (.getfield 19, 3) := by decide +kernel
theorem dX8_anew_31 : decode cX8_anew 31 = .ok (.aload_n 0, 1) := by decide +kernel
theorem dX8_anew_32 : decode cX8_anew 32 = .ok (.getfield 47, 3) := by decide +kernel
theorem dX8_anew_35 : decode cX8_anew 35 = .ok (.getfield 226, 3) := by decide +kernel
theorem dX8_anew_38 : decode cX8_anew 38 = .ok (.invokevirtual 237, 3) := by decide +kernel
theorem dX8_anew_41 : decode cX8_anew 41 = .ok (.iconst 0, 1) := by decide +kernel
theorem dX8_anew_42 : decode cX8_anew 42 = .ok (.istore_n 1, 1) := by decide +kernel
theorem dX8_anew_43 : decode cX8_anew 43 = .ok (.iload_n 1, 1) := by decide +kernel
theorem dX8_anew_44 : decode cX8_anew 44 = .ok (.aload_n 0, 1) := by decide +kernel
theorem dX8_anew_45 : decode cX8_anew 45 = .ok (.getfield 54, 3) := by decide +kernel
theorem dX8_anew_48 : decode cX8_anew 48 = .ok (.getfield 241, 3) := by decide +kernel
theorem dX8_anew_51 : decode cX8_anew 51 = .ok (.if_icmp .ge 22, 3) := by decide +kernel
theorem dX8_anew_54 : decode cX8_anew 54 = .ok (.aload_n 0, 1) := by decide +kernel
theorem dX8_anew_55 : decode cX8_anew 55 = .ok (.aload_n 0, 1) := by decide +kernel
theorem dX8_anew_56 : decode cX8_anew 56 = .ok (.getfield 54, 3) := by decide +kernel
theorem dX8_anew_59 : decode cX8_anew 59 = .ok (.getfield 242, 3) := by decide +kernel
theorem dX8_anew_62 : decode cX8_anew 62 = .ok (.iload_n 1, 1) := by decide +kernel
theorem dX8_anew_63 : decode cX8_anew 63 = .ok (.iaload, 1) := by decide +kernel
theorem dX8_anew_64 : decode cX8_anew 64 = .ok (.invokevirtual 245, 3) := by decide +kernel
theorem dX8_anew_67 : decode cX8_anew 67 = .ok (.iinc 1 1, 3) := by decide +kernel
theorem dX8_anew_70 : decode cX8_anew 70 = .ok (.goto (-27), 3) := by decide +kernel
theorem dX8_anew_73 : decode cX8_anew 73 = .ok (.aload_n 0, 1) := by decide +kernel
theorem dX8_anew_74 : decode cX8_anew 74 = .ok (.getfield 54, 3) := by decide +kernel
theorem dX8_anew_77 : decode cX8_anew 77 = .ok (.invokevirtual 248, 3) := by decide +kernel
theorem dX8_anew_80 : decode cX8_anew 80 = .ok (.iconst 0, 1) := by decide +kernel
theorem dX8_anew_81 : decode cX8_anew 81 = .ok (.istore_n 1, 1) := by decide +kernel
theorem dX8_anew_82 : decode cX8_anew 82 = .ok (.iload_n 1, 1) := by decide +kernel
theorem dX8_anew_83 : decode cX8_anew 83 = .ok (.aload_n 0, 1) := by decide +kernel
theorem dX8_anew_84 : decode cX8_anew 84 = .ok (.getfield 54, 3) := by decide +kernel
theorem dX8_anew_87 : decode cX8_anew 87 = .ok (.getfield 241, 3) := by decide +kernel
theorem dX8_anew_90 : decode cX8_anew 90 = .ok (.if_icmp .ge 38, 3) := by decide +kernel
theorem dX8_anew_93 : decode cX8_anew 93 = .ok (.aload_n 0, 1) := by decide +kernel
theorem dX8_anew_94 : decode cX8_anew 94 = .ok (.getfield 54, 3) := by decide +kernel
theorem dX8_anew_97 : decode cX8_anew 97 = .ok (.getfield 251, 3) := by decide +kernel
theorem dX8_anew_100 : decode cX8_anew 100 = .ok (.iload_n 1, 1) := by decide +kernel
theorem dX8_anew_101 : decode cX8_anew 101 = .ok (.iaload, 1) := by decide +kernel
theorem dX8_anew_102 : decode cX8_anew 102 = .ok (.istore_n 2, 1) := by decide +kernel
theorem dX8_anew_103 : decode cX8_anew 103 = .ok (.aload_n 0, 1) := by decide +kernel
theorem dX8_anew_104 : decode cX8_anew 104 = .ok (.getfield 54, 3) := by decide +kernel
theorem dX8_anew_107 : decode cX8_anew 107 = .ok (.getfield 254, 3) := by decide +kernel
theorem dX8_anew_110 : decode cX8_anew 110 = .ok (.iload_n 2, 1) := by decide +kernel
theorem dX8_anew_111 : decode cX8_anew 111 = .ok (.iload_n 1, 1) := by decide +kernel
theorem dX8_anew_112 : decode cX8_anew 112 = .ok (.iastore, 1) := by decide +kernel
theorem dX8_anew_113 : decode cX8_anew 113 = .ok (.aload_n 0, 1) := by decide +kernel
theorem dX8_anew_114 : decode cX8_anew 114 = .ok (.getfield 19, 3) := by decide +kernel
theorem dX8_anew_117 : decode cX8_anew 117 = .ok (.iload_n 2, 1) := by decide +kernel
theorem dX8_anew_118 : decode cX8_anew 118 = .ok (.iload_n 1, 1) := by decide +kernel
theorem dX8_anew_119 : decode cX8_anew 119 = .ok (.invokevirtual 257, 3) := by decide +kernel
theorem dX8_anew_122 : decode cX8_anew 122 = .ok (.iinc 1 1, 3) := by decide +kernel
theorem dX8_anew_125 : decode cX8_anew 125 = .ok (.goto (-43), 3) := by decide +kernel
theorem dX8_anew_128 : decode cX8_anew 128 = .ok (.aload_n 0, 1) := by decide +kernel
theorem dX8_anew_129 : decode cX8_anew 129 = .ok (.getfield 33, 3) := by decide +kernel
theorem dX8_anew_132 : decode cX8_anew 132 = .ok (.iconst 0, 1) := by decide +kernel
theorem dX8_anew_133 : decode cX8_anew 133 = .ok (.putfield 76, 3) := by decide +kernel
theorem dX8_anew_136 : decode cX8_anew 136 = .ok (.aload_n 0, 1) := by decide +kernel
theorem dX8_anew_137 : decode cX8_anew 137 = .ok (.getfield 54, 3) := by decide +kernel
theorem dX8_anew_140 : decode cX8_anew 140 = .ok (.aload_n 0, 1) := by decide +kernel
theorem dX8_anew_141 : decode cX8_anew 141 = .ok (.getfield 54, 3) := by decide +kernel
theorem dX8_anew_144 : decode cX8_anew 144 = .ok (.getfield 260, 3) := by decide +kernel
theorem dX8_anew_147 : decode cX8_anew 147 = .ok (.invokevirtual 263, 3) := by decide +kernel
theorem dX8_anew_150 : decode cX8_anew 150 = .ok (.ireturn, 1) := by decide +kernel
theorem dX8_why_0 : decode cX8_why 0 = .ok (.aload_n 0, 1) := by decide +kernel
theorem dX8_why_1 : decode cX8_why 1 = .ok (.iload_n 1, 1) := by decide +kernel
theorem dX8_why_2 : decode cX8_why 2 = .ok (.invokevirtual 101, 3) := by decide +kernel
theorem dX8_why_5 : decode cX8_why 5 = .ok (.istore_n 2, 1) := by decide +kernel
theorem dX8_why_6 : decode cX8_why 6 = .ok (.iload_n 2, 1) := by decide +kernel
theorem dX8_why_7 : decode cX8_why 7 = .ok (.ifCond .eq 7, 3) := by decide +kernel
theorem dX8_why_10 : decode cX8_why 10 = .ok (.iload_n 2, 1) := by decide +kernel
theorem dX8_why_11 : decode cX8_why 11 = .ok (.goto 12, 3) := by decide +kernel
theorem dX8_why_14 : decode cX8_why 14 = .ok (.aload_n 0, 1) := by decide +kernel
theorem dX8_why_15 : decode cX8_why 15 = .ok (.getfield 54, 3) := by decide +kernel
theorem dX8_why_18 : decode cX8_why 18 = .ok (.getfield 267, 3) := by decide +kernel
theorem dX8_why_21 : decode cX8_why 21 = .ok (.iload_n 1, 1) := by decide +kernel
theorem dX8_why_22 : decode cX8_why 22 = .ok (.iaload, 1) := by decide +kernel
theorem dX8_why_23 : decode cX8_why 23 = .ok (.ireturn, 1) := by decide +kernel
theorem dX8_passed_0 : decode cX8_passed 0 = .ok (.aload_n 0, 1) := by decide +kernel
theorem dX8_passed_1 : decode cX8_passed 1 = .ok (.getfield 19, 3) := by decide +kernel
theorem dX8_passed_4 : decode cX8_passed 4 = .ok (.iload_n 1, 1) := by decide +kernel
theorem dX8_passed_5 : decode cX8_passed 5 = .ok (.invokevirtual 87, 3) := by decide +kernel
theorem dX8_passed_8 : decode cX8_passed 8 = .ok (.ifCond .eq 14, 3) := by decide +kernel
theorem dX8_passed_11 : decode cX8_passed 11 = .ok (.aload_n 0, 1) := by decide +kernel
theorem dX8_passed_12 : decode cX8_passed 12 = .ok (.getfield 19, 3) := by decide +kernel
theorem dX8_passed_15 : decode cX8_passed 15 = .ok (.iload_n 2, 1) := by decide +kernel
theorem dX8_passed_16 : decode cX8_passed 16 = .ok (.invokevirtual 87, 3) := by decide +kernel
theorem dX8_passed_19 : decode cX8_passed 19 = .ok (.ifCond .ne 5, 3) := by decide +kernel
theorem dX8_passed_22 : decode cX8_passed 22 = .ok (.iconst (-1), 1) := by decide +kernel
theorem dX8_passed_23 : decode cX8_passed 23 = .ok (.ireturn, 1) := by decide +kernel
theorem dX8_passed_24 : decode cX8_passed 24 = .ok (.aload_n 0, 1) := by decide +kernel
theorem dX8_passed_25 : decode cX8_passed 25 = .ok (.getfield 19, 3) := by decide +kernel
theorem dX8_passed_28 : decode cX8_passed 28 = .ok (.getfield 90, 3) := by decide +kernel
theorem dX8_passed_31 : decode cX8_passed 31 = .ok (.iload_n 1, 1) := by decide +kernel
theorem dX8_passed_32 : decode cX8_passed 32 = .ok (.baload, 1) := by decide +kernel
theorem dX8_passed_33 : decode cX8_passed 33 = .ok (.ifCond .ne 15, 3) := by decide +kernel
theorem dX8_passed_36 : decode cX8_passed 36 = .ok (.aload_n 0, 1) := by decide +kernel
theorem dX8_passed_37 : decode cX8_passed 37 = .ok (.getfield 19, 3) := by decide +kernel
theorem dX8_passed_40 : decode cX8_passed 40 = .ok (.getfield 90, 3) := by decide +kernel
theorem dX8_passed_43 : decode cX8_passed 43 = .ok (.iload_n 2, 1) := by decide +kernel
theorem dX8_passed_44 : decode cX8_passed 44 = .ok (.baload, 1) := by decide +kernel
theorem dX8_passed_45 : decode cX8_passed 45 = .ok (.ifCond .eq 12, 3) := by decide +kernel
theorem dX8_passed_48 : decode cX8_passed 48 = .ok (.aload_n 0, 1) := by decide +kernel
theorem dX8_passed_49 : decode cX8_passed 49 = .ok (.getfield 12, 3) := by decide +kernel
theorem dX8_passed_52 : decode cX8_passed 52 = .ok (.iconst 1, 1) := by decide +kernel
theorem dX8_passed_53 : decode cX8_passed 53 = .ok (.invokevirtual 94, 3) := by decide +kernel
theorem dX8_passed_56 : decode cX8_passed 56 = .ok (.ireturn, 1) := by decide +kernel
theorem dX8_passed_57 : decode cX8_passed 57 = .ok (.aload_n 0, 1) := by decide +kernel
theorem dX8_passed_58 : decode cX8_passed 58 = .ok (.getfield 54, 3) := by decide +kernel
theorem dX8_passed_61 : decode cX8_passed 61 = .ok (.iload_n 1, 1) := by decide +kernel
theorem dX8_passed_62 : decode cX8_passed 62 = .ok (.iload_n 2, 1) := by decide +kernel
theorem dX8_passed_63 : decode cX8_passed 63 = .ok (.invokevirtual 270, 3) := by decide +kernel
theorem dX8_passed_66 : decode cX8_passed 66 = .ok (.ifCond .eq 7, 3) := by decide +kernel
theorem dX8_passed_69 : decode cX8_passed 69 = .ok (.iconst 1, 1) := by decide +kernel
theorem dX8_passed_70 : decode cX8_passed 70 = .ok (.goto 4, 3) := by decide +kernel
theorem dX8_passed_73 : decode cX8_passed 73 = .ok (.iconst 0, 1) := by decide +kernel
theorem dX8_passed_74 : decode cX8_passed 74 = .ok (.ireturn, 1) := by decide +kernel
theorem dX8_beside_0 : decode cX8_beside 0 = .ok (.aload_n 0, 1) := by decide +kernel
theorem dX8_beside_1 : decode cX8_beside 1 = .ok (.getfield 33, 3) := by decide +kernel
theorem dX8_beside_4 : decode cX8_beside 4 = .ok (.iload_n 1, 1) := by decide +kernel
theorem dX8_beside_5 : decode cX8_beside 5 = .ok (.invokevirtual 206, 3) := by decide +kernel
theorem dX8_beside_8 : decode cX8_beside 8 = .ok (.ifCond .ne 5, 3) := by decide +kernel
theorem dX8_beside_11 : decode cX8_beside 11 = .ok (.iconst (-1), 1) := by decide +kernel
theorem dX8_beside_12 : decode cX8_beside 12 = .ok (.ireturn, 1) := by decide +kernel
theorem dX8_beside_13 : decode cX8_beside 13 = .ok (.aload_n 0, 1) := by decide +kernel
theorem dX8_beside_14 : decode cX8_beside 14 = .ok (.getfield 54, 3) := by decide +kernel
theorem dX8_beside_17 : decode cX8_beside 17 = .ok (.getfield 80, 3) := by decide +kernel
theorem dX8_beside_20 : decode cX8_beside 20 = .ok (.ifCond .ne 6, 3) := by decide +kernel
theorem dX8_beside_23 : decode cX8_beside 23 = .ok (.bipush (-4), 2) := by decide +kernel
theorem dX8_beside_25 : decode cX8_beside 25 = .ok (.ireturn, 1) := by decide +kernel
theorem dX8_beside_26 : decode cX8_beside 26 = .ok (.iconst 0, 1) := by decide +kernel
theorem dX8_beside_27 : decode cX8_beside 27 = .ok (.istore_n 2, 1) := by decide +kernel
theorem dX8_beside_28 : decode cX8_beside 28 = .ok (.iload_n 2, 1) := by decide +kernel
theorem dX8_beside_29 : decode cX8_beside 29 = .ok (.aload_n 0, 1) := by decide +kernel
theorem dX8_beside_30 : decode cX8_beside 30 = .ok (.getfield 54, 3) := by decide +kernel
theorem dX8_beside_33 : decode cX8_beside 33 = .ok (.getfield 241, 3) := by decide +kernel
theorem dX8_beside_36 : decode cX8_beside 36 = .ok (.if_icmp .ge 67, 3) := by decide +kernel
theorem dX8_beside_39 : decode cX8_beside 39 = .ok (.aload_n 0, 1) := by decide +kernel
theorem dX8_beside_40 : decode cX8_beside 40 = .ok (.getfield 54, 3) := by decide +kernel
theorem dX8_beside_43 : decode cX8_beside 43 = .ok (.getfield 242, 3) := by decide +kernel
theorem dX8_beside_46 : decode cX8_beside 46 = .ok (.iload_n 2, 1) := by decide +kernel
theorem dX8_beside_47 : decode cX8_beside 47 = .ok (.iaload, 1) := by decide +kernel
theorem dX8_beside_48 : decode cX8_beside 48 = .ok (.istore_n 3, 1) := by decide +kernel
theorem dX8_beside_49 : decode cX8_beside 49 = .ok (.aload_n 0, 1) := by decide +kernel
theorem dX8_beside_50 : decode cX8_beside 50 = .ok (.getfield 47, 3) := by decide +kernel
theorem dX8_beside_53 : decode cX8_beside 53 = .ok (.aload_n 0, 1) := by decide +kernel
theorem dX8_beside_54 : decode cX8_beside 54 = .ok (.iload_n 3, 1) := by decide +kernel
theorem dX8_beside_55 : decode cX8_beside 55 = .ok (.iload_n 1, 1) := by decide +kernel
theorem dX8_beside_56 : decode cX8_beside 56 = .ok (.invokevirtual 273, 3) := by decide +kernel
theorem dX8_beside_59 : decode cX8_beside 59 = .ok (.aload_n 0, 1) := by decide +kernel
theorem dX8_beside_60 : decode cX8_beside 60 = .ok (.getfield 54, 3) := by decide +kernel
theorem dX8_beside_63 : decode cX8_beside 63 = .ok (.getfield 276, 3) := by decide +kernel
theorem dX8_beside_66 : decode cX8_beside 66 = .ok (.invokevirtual 279, 3) := by decide +kernel
theorem dX8_beside_69 : decode cX8_beside 69 = .ok (.istore 4, 2) := by decide +kernel
theorem dX8_beside_71 : decode cX8_beside 71 = .ok (.aload_n 0, 1) := by decide +kernel
theorem dX8_beside_72 : decode cX8_beside 72 = .ok (.getfield 54, 3) := by decide +kernel
theorem dX8_beside_75 : decode cX8_beside 75 = .ok (.iload_n 3, 1) := by decide +kernel
theorem dX8_beside_76 : decode cX8_beside 76 = .ok (.aload_n 0, 1) := by decide +kernel
theorem dX8_beside_77 : decode cX8_beside 77 = .ok (.getfield 47, 3) := by decide +kernel
theorem dX8_beside_80 : decode cX8_beside 80 = .ok (.iload 4, 2) := by decide +kernel
theorem dX8_beside_82 : decode cX8_beside 82 = .ok (.aload_n 0, 1) := by decide +kernel
theorem dX8_beside_83 : decode cX8_beside 83 = .ok (.getfield 19, 3) := by decide +kernel
theorem dX8_beside_86 : decode cX8_beside 86 = .ok (.getfield 282, 3) := by decide +kernel
theorem dX8_beside_89 : decode cX8_beside 89 = .ok (.iload_n 3, 1) := by decide +kernel
theorem dX8_beside_90 : decode cX8_beside 90 = .ok (.iaload, 1) := by decide +kernel
theorem dX8_beside_91 : decode cX8_beside 91 = .ok (.invokevirtual 285, 3) := by decide +kernel
theorem dX8_beside_94 : decode cX8_beside 94 = .ok (.invokevirtual 288, 3) := by decide +kernel
theorem dX8_beside_97 : decode cX8_beside 97 = .ok (.iinc 2 1, 3) := by decide +kernel
theorem dX8_beside_100 : decode cX8_beside 100 = .ok (.goto (-72), 3) := by decide +kernel
theorem dX8_beside_103 : decode cX8_beside 103 = .ok (.aload_n 0, 1) := by decide +kernel
theorem dX8_beside_104 : decode cX8_beside 104 = .ok (.getfield 54, 3) := by decide +kernel
theorem dX8_beside_107 : decode cX8_beside 107 = .ok (.invokevirtual 248, 3) := by decide +kernel
theorem dX8_beside_110 : decode cX8_beside 110 = .ok (.iconst 0, 1) := by decide +kernel
theorem dX8_beside_111 : decode cX8_beside 111 = .ok (.istore_n 2, 1) := by decide +kernel
theorem dX8_beside_112 : decode cX8_beside 112 = .ok (.iload_n 2, 1) := by decide +kernel
theorem dX8_beside_113 : decode cX8_beside 113 = .ok (.aload_n 0, 1) := by decide +kernel
theorem dX8_beside_114 : decode cX8_beside 114 = .ok (.getfield 54, 3) := by decide +kernel
theorem dX8_beside_117 : decode cX8_beside 117 = .ok (.getfield 241, 3) := by decide +kernel
theorem dX8_beside_120 : decode cX8_beside 120 = .ok (.if_icmp .ge 27, 3) := by decide +kernel
theorem dX8_beside_123 : decode cX8_beside 123 = .ok (.aload_n 0, 1) := by decide +kernel
theorem dX8_beside_124 : decode cX8_beside 124 = .ok (.getfield 54, 3) := by decide +kernel
theorem dX8_beside_127 : decode cX8_beside 127 = .ok (.getfield 291, 3) := by decide +kernel
theorem dX8_beside_130 : decode cX8_beside 130 = .ok (.aload_n 0, 1) := by decide +kernel
theorem dX8_beside_131 : decode cX8_beside 131 = .ok (.getfield 54, 3) := by decide +kernel
theorem dX8_beside_134 : decode cX8_beside 134 = .ok (.getfield 251, 3) := by decide +kernel
theorem dX8_beside_137 : decode cX8_beside 137 = .ok (.iload_n 2, 1) := by decide +kernel
theorem dX8_beside_138 : decode cX8_beside 138 = .ok (.iaload, 1) := by decide +kernel
theorem dX8_beside_139 : decode cX8_beside 139 = .ok (.iload_n 2, 1) := by decide +kernel
theorem dX8_beside_140 : decode cX8_beside 140 = .ok (.iastore, 1) := by decide +kernel
theorem dX8_beside_141 : decode cX8_beside 141 = .ok (.iinc 2 1, 3) := by decide +kernel
theorem dX8_beside_144 : decode cX8_beside 144 = .ok (.goto (-32), 3) := by decide +kernel
theorem dX8_beside_147 : decode cX8_beside 147 = .ok (.aload_n 0, 1) := by decide +kernel
theorem dX8_beside_148 : decode cX8_beside 148 = .ok (.getfield 54, 3) := by decide +kernel
theorem dX8_beside_151 : decode cX8_beside 151 = .ok (.aload_n 0, 1) := by decide +kernel
theorem dX8_beside_152 : decode cX8_beside 152 = .ok (.getfield 54, 3) := by decide +kernel
theorem dX8_beside_155 : decode cX8_beside 155 = .ok (.getfield 291, 3) := by decide +kernel
theorem dX8_beside_158 : decode cX8_beside 158 = .ok (.invokevirtual 263, 3) := by decide +kernel
theorem dX8_beside_161 : decode cX8_beside 161 = .ok (.ireturn, 1) := by decide +kernel
theorem dX8_rungBeside_0 : decode cX8_rungBeside 0 = .ok (.aload_n 0, 1) := by decide +kernel
theorem dX8_rungBeside_1 : decode cX8_rungBeside 1 = .ok (.iload_n 1, 1) := by decide +kernel
theorem dX8_rungBeside_2 : decode cX8_rungBeside 2 = .ok (.invokevirtual 101, 3) := by decide +kernel
theorem dX8_rungBeside_5 : decode cX8_rungBeside 5 = .ok (.istore_n 2, 1) := by decide +kernel
theorem dX8_rungBeside_6 : decode cX8_rungBeside 6 = .ok (.iload_n 2, 1) := by decide +kernel
theorem dX8_rungBeside_7 : decode cX8_rungBeside 7 = .ok (.ifCond .eq 7, 3) := by decide +kernel
theorem dX8_rungBeside_10 : decode cX8_rungBeside 10 = .ok (.iload_n 2, 1) := by decide +kernel
theorem dX8_rungBeside_11 : decode cX8_rungBeside 11 = .ok (.goto 12, 3) := by decide +kernel
theorem dX8_rungBeside_14 : decode cX8_rungBeside 14 = .ok (.aload_n 0, 1) := by decide +kernel
theorem dX8_rungBeside_15 : decode cX8_rungBeside 15 = .ok (.getfield 54, 3) := by decide +kernel
theorem dX8_rungBeside_18 : decode cX8_rungBeside 18 = .ok (.getfield 291, 3) := by decide +kernel
theorem dX8_rungBeside_21 : decode cX8_rungBeside 21 = .ok (.iload_n 1, 1) := by decide +kernel
theorem dX8_rungBeside_22 : decode cX8_rungBeside 22 = .ok (.iaload, 1) := by decide +kernel
theorem dX8_rungBeside_23 : decode cX8_rungBeside 23 = .ok (.ireturn, 1) := by decide +kernel
theorem dX8_leaders_0 : decode cX8_leaders 0 = .ok (.aload_n 0, 1) := by decide +kernel
theorem dX8_leaders_1 : decode cX8_leaders 1 = .ok (.getfield 33, 3) := by decide +kernel
theorem dX8_leaders_4 : decode cX8_leaders 4 = .ok (.getfield 76, 3) := by decide +kernel
theorem dX8_leaders_7 : decode cX8_leaders 7 = .ok (.ifCond .ne 6, 3) := by decide +kernel
theorem dX8_leaders_10 : decode cX8_leaders 10 = .ok (.bipush (-4), 2) := by decide +kernel
theorem dX8_leaders_12 : decode cX8_leaders 12 = .ok (.ireturn, 1) := by decide +kernel
theorem dX8_leaders_13 : decode cX8_leaders 13 = .ok (.aload_n 0, 1) := by decide +kernel
theorem dX8_leaders_14 : decode cX8_leaders 14 = .ok (.getfield 19, 3) := by decide +kernel
theorem dX8_leaders_17 : decode cX8_leaders 17 = .ok (.invokevirtual 294, 3) := by decide +kernel
theorem dX8_leaders_20 : decode cX8_leaders 20 = .ok (.istore_n 1, 1) := by decide +kernel
theorem dX8_leaders_21 : decode cX8_leaders 21 = .ok (.iconst 0, 1) := by decide +kernel
theorem dX8_leaders_22 : decode cX8_leaders 22 = .ok (.istore_n 2, 1) := by decide +kernel
theorem dX8_leaders_23 : decode cX8_leaders 23 = .ok (.iconst 0, 1) := by decide +kernel
theorem dX8_leaders_24 : decode cX8_leaders 24 = .ok (.istore_n 3, 1) := by decide +kernel
theorem dX8_leaders_25 : decode cX8_leaders 25 = .ok (.iload_n 3, 1) := by decide +kernel
theorem dX8_leaders_26 : decode cX8_leaders 26 = .ok (.aload_n 0, 1) := by decide +kernel
theorem dX8_leaders_27 : decode cX8_leaders 27 = .ok (.getfield 19, 3) := by decide +kernel
theorem dX8_leaders_30 : decode cX8_leaders 30 = .ok (.getfield 112, 3) := by decide +kernel
theorem dX8_leaders_33 : decode cX8_leaders 33 = .ok (.if_icmp .ge 41, 3) := by decide +kernel
theorem dX8_leaders_36 : decode cX8_leaders 36 = .ok (.aload_n 0, 1) := by decide +kernel
theorem dX8_leaders_37 : decode cX8_leaders 37 = .ok (.getfield 19, 3) := by decide +kernel
theorem dX8_leaders_40 : decode cX8_leaders 40 = .ok (.getfield 115, 3) := by decide +kernel
theorem dX8_leaders_43 : decode cX8_leaders 43 = .ok (.iload_n 3, 1) := by decide +kernel
theorem dX8_leaders_44 : decode cX8_leaders 44 = .ok (.iaload, 1) := by decide +kernel
theorem dX8_leaders_45 : decode cX8_leaders 45 = .ok (.istore 4, 2) := by decide +kernel
theorem dX8_leaders_47 : decode cX8_leaders 47 = .ok (.aload_n 0, 1) := by decide +kernel
theorem dX8_leaders_48 : decode cX8_leaders 48 = .ok (.getfield 19, 3) := by decide +kernel
theorem dX8_leaders_51 : decode cX8_leaders 51 = .ok (.getfield 125, 3) := by decide +kernel
theorem dX8_leaders_54 : decode cX8_leaders 54 = .ok (.iload 4, 2) := by decide +kernel
theorem dX8_leaders_56 : decode cX8_leaders 56 = .ok (.iaload, 1) := by decide +kernel
theorem dX8_leaders_57 : decode cX8_leaders 57 = .ok (.iload_n 1, 1) := by decide +kernel
theorem dX8_leaders_58 : decode cX8_leaders 58 = .ok (.if_icmp .ne 10, 3) := by decide +kernel
theorem dX8_leaders_61 : decode cX8_leaders 61 = .ok (.iload_n 2, 1) := by decide +kernel
theorem dX8_leaders_62 : decode cX8_leaders 62 = .ok (.iconst 1, 1) := by decide +kernel
theorem dX8_leaders_63 : decode cX8_leaders 63 = .ok (.iload 4, 2) := by decide +kernel
theorem dX8_leaders_65 : decode cX8_leaders 65 = .ok (.ishl, 1) := by decide +kernel
theorem dX8_leaders_66 : decode cX8_leaders 66 = .ok (.ior, 1) := by decide +kernel
theorem dX8_leaders_67 : decode cX8_leaders 67 = .ok (.istore_n 2, 1) := by decide +kernel
theorem dX8_leaders_68 : decode cX8_leaders 68 = .ok (.iinc 3 1, 3) := by decide +kernel
theorem dX8_leaders_71 : decode cX8_leaders 71 = .ok (.goto (-46), 3) := by decide +kernel
theorem dX8_leaders_74 : decode cX8_leaders 74 = .ok (.iload_n 2, 1) := by decide +kernel
theorem dX8_leaders_75 : decode cX8_leaders 75 = .ok (.ireturn, 1) := by decide +kernel
theorem dX8_playOff_0 : decode cX8_playOff 0 = .ok (.aload_n 0, 1) := by decide +kernel
theorem dX8_playOff_1 : decode cX8_playOff 1 = .ok (.getfield 33, 3) := by decide +kernel
theorem dX8_playOff_4 : decode cX8_playOff 4 = .ok (.invokevirtual 230, 3) := by decide +kernel
theorem dX8_playOff_7 : decode cX8_playOff 7 = .ok (.ifCond .eq 23, 3) := by decide +kernel
theorem dX8_playOff_10 : decode cX8_playOff 10 = .ok (.aload_n 0, 1) := by decide +kernel
theorem dX8_playOff_11 : decode cX8_playOff 11 = .ok (.getfield 61, 3) := by decide +kernel
theorem dX8_playOff_14 : decode cX8_playOff 14 = .ok (.getfield 297, 3) := by decide +kernel
theorem dX8_playOff_17 : decode cX8_playOff 17 = .ok (.ifCond .ne 13, 3) := by decide +kernel
theorem dX8_playOff_20 : decode cX8_playOff 20 = .ok (.aload_n 0, 1) := by decide +kernel
theorem dX8_playOff_21 : decode cX8_playOff 21 = .ok (.getfield 19, 3) := by decide +kernel
theorem dX8_playOff_24 : decode cX8_playOff 24 = .ok (.getfield 112, 3) := by decide +kernel
theorem dX8_playOff_27 : decode cX8_playOff 27 = .ok (.ifCond .ne 6, 3) := by decide +kernel
theorem dX8_playOff_30 : decode cX8_playOff 30 = .ok (.bipush (-4), 2) := by decide +kernel
theorem dX8_playOff_32 : decode cX8_playOff 32 = .ok (.ireturn, 1) := by decide +kernel
theorem dX8_playOff_33 : decode cX8_playOff 33 = .ok (.aload_n 0, 1) := by decide +kernel
theorem dX8_playOff_34 : decode cX8_playOff 34 = .ok (.getfield 61, 3) := by decide +kernel
theorem dX8_playOff_37 : decode cX8_playOff 37 = .ok (.iconst 1, 1) := by decide +kernel
theorem dX8_playOff_38 : decode cX8_playOff 38 = .ok (.putfield 297, 3) := by decide +kernel
theorem dX8_playOff_41 : decode cX8_playOff 41 = .ok (.aload_n 0, 1) := by decide +kernel
theorem dX8_playOff_42 : decode cX8_playOff 42 = .ok (.getfield 19, 3) := by decide +kernel
theorem dX8_playOff_45 : decode cX8_playOff 45 = .ok (.invokevirtual 294, 3) := by decide +kernel
theorem dX8_playOff_48 : decode cX8_playOff 48 = .ok (.istore_n 1, 1) := by decide +kernel
theorem dX8_playOff_49 : decode cX8_playOff 49 = .ok (.iconst 0, 1) := by decide +kernel
theorem dX8_playOff_50 : decode cX8_playOff 50 = .ok (.istore_n 2, 1) := by decide +kernel
theorem dX8_playOff_51 : decode cX8_playOff 51 = .ok (.iload_n 2, 1) := by decide +kernel
theorem dX8_playOff_52 : decode cX8_playOff 52 = .ok (.aload_n 0, 1) := by decide +kernel
theorem dX8_playOff_53 : decode cX8_playOff 53 = .ok (.getfield 19, 3) := by decide +kernel
theorem dX8_playOff_56 : decode cX8_playOff 56 = .ok (.getfield 112, 3) := by decide +kernel
theorem dX8_playOff_59 : decode cX8_playOff 59 = .ok (.if_icmp .ge 40, 3) := by decide +kernel
theorem dX8_playOff_62 : decode cX8_playOff 62 = .ok (.aload_n 0, 1) := by decide +kernel
theorem dX8_playOff_63 : decode cX8_playOff 63 = .ok (.getfield 19, 3) := by decide +kernel
theorem dX8_playOff_66 : decode cX8_playOff 66 = .ok (.getfield 115, 3) := by decide +kernel
theorem dX8_playOff_69 : decode cX8_playOff 69 = .ok (.iload_n 2, 1) := by decide +kernel
theorem dX8_playOff_70 : decode cX8_playOff 70 = .ok (.iaload, 1) := by decide +kernel
theorem dX8_playOff_71 : decode cX8_playOff 71 = .ok (.istore_n 3, 1) := by decide +kernel
theorem dX8_playOff_72 : decode cX8_playOff 72 = .ok (.aload_n 0, 1) := by decide +kernel
theorem dX8_playOff_73 : decode cX8_playOff 73 = .ok (.getfield 19, 3) := by decide +kernel
theorem dX8_playOff_76 : decode cX8_playOff 76 = .ok (.getfield 125, 3) := by decide +kernel
theorem dX8_playOff_79 : decode cX8_playOff 79 = .ok (.iload_n 3, 1) := by decide +kernel
theorem dX8_playOff_80 : decode cX8_playOff 80 = .ok (.iaload, 1) := by decide +kernel
theorem dX8_playOff_81 : decode cX8_playOff 81 = .ok (.iload_n 1, 1) := by decide +kernel
theorem dX8_playOff_82 : decode cX8_playOff 82 = .ok (.if_icmp .ne 11, 3) := by decide +kernel
theorem dX8_playOff_85 : decode cX8_playOff 85 = .ok (.aload_n 0, 1) := by decide +kernel
theorem dX8_playOff_86 : decode cX8_playOff 86 = .ok (.getfield 61, 3) := by decide +kernel
theorem dX8_playOff_89 : decode cX8_playOff 89 = .ok (.iload_n 3, 1) := by decide +kernel
theorem dX8_playOff_90 : decode cX8_playOff 90 = .ok (.invokevirtual 300, 3) := by decide +kernel
theorem dX8_playOff_93 : decode cX8_playOff 93 = .ok (.iinc 2 1, 3) := by decide +kernel
theorem dX8_playOff_96 : decode cX8_playOff 96 = .ok (.goto (-45), 3) := by decide +kernel
theorem dX8_playOff_99 : decode cX8_playOff 99 = .ok (.aload_n 0, 1) := by decide +kernel
theorem dX8_playOff_100 : decode cX8_playOff 100 = .ok (.invokevirtual 303, 3) := by decide +kernel
theorem dX8_playOff_103 : decode cX8_playOff 103 = .ok (.aload_n 0, 1) := by decide +kernel
theorem dX8_playOff_104 : decode cX8_playOff 104 = .ok (.getfield 61, 3) := by decide +kernel
theorem dX8_playOff_107 : decode cX8_playOff 107 = .ok (.getfield 306, 3) := by decide +kernel
theorem dX8_playOff_110 : decode cX8_playOff 110 = .ok (.ireturn, 1) := by decide +kernel
theorem dX8_meets_0 : decode cX8_meets 0 = .ok (.aload_n 0, 1) := by decide +kernel
theorem dX8_meets_1 : decode cX8_meets 1 = .ok (.getfield 61, 3) := by decide +kernel
theorem dX8_meets_4 : decode cX8_meets 4 = .ok (.invokevirtual 234, 3) := by decide +kernel
theorem dX8_meets_7 : decode cX8_meets 7 = .ok (.ifCond .ne 6, 3) := by decide +kernel
theorem dX8_meets_10 : decode cX8_meets 10 = .ok (.bipush (-9), 2) := by decide +kernel
theorem dX8_meets_12 : decode cX8_meets 12 = .ok (.ireturn, 1) := by decide +kernel
theorem dX8_meets_13 : decode cX8_meets 13 = .ok (.aload_n 0, 1) := by decide +kernel
theorem dX8_meets_14 : decode cX8_meets 14 = .ok (.getfield 61, 3) := by decide +kernel
theorem dX8_meets_17 : decode cX8_meets 17 = .ok (.getfield 309, 3) := by decide +kernel
theorem dX8_meets_20 : decode cX8_meets 20 = .ok (.iload_n 1, 1) := by decide +kernel
theorem dX8_meets_21 : decode cX8_meets 21 = .ok (.ifCond .eq 7, 3) := by decide +kernel
theorem dX8_meets_24 : decode cX8_meets 24 = .ok (.iconst 1, 1) := by decide +kernel
theorem dX8_meets_25 : decode cX8_meets 25 = .ok (.goto 4, 3) := by decide +kernel
theorem dX8_meets_28 : decode cX8_meets 28 = .ok (.iconst 0, 1) := by decide +kernel
theorem dX8_meets_29 : decode cX8_meets 29 = .ok (.iaload, 1) := by decide +kernel
theorem dX8_meets_30 : decode cX8_meets 30 = .ok (.ireturn, 1) := by decide +kernel
theorem dX8_wins_0 : decode cX8_wins 0 = .ok (.aload_n 0, 1) := by decide +kernel
theorem dX8_wins_1 : decode cX8_wins 1 = .ok (.getfield 61, 3) := by decide +kernel
theorem dX8_wins_4 : decode cX8_wins 4 = .ok (.invokevirtual 234, 3) := by decide +kernel
theorem dX8_wins_7 : decode cX8_wins 7 = .ok (.ifCond .ne 6, 3) := by decide +kernel
theorem dX8_wins_10 : decode cX8_wins 10 = .ok (.bipush (-4), 2) := by decide +kernel
theorem dX8_wins_12 : decode cX8_wins 12 = .ok (.ireturn, 1) := by decide +kernel
theorem dX8_wins_13 : decode cX8_wins 13 = .ok (.aload_n 0, 1) := by decide +kernel
theorem dX8_wins_14 : decode cX8_wins 14 = .ok (.getfield 61, 3) := by decide +kernel
theorem dX8_wins_17 : decode cX8_wins 17 = .ok (.iload_n 1, 1) := by decide +kernel
theorem dX8_wins_18 : decode cX8_wins 18 = .ok (.invokevirtual 312, 3) := by decide +kernel
theorem dX8_wins_21 : decode cX8_wins 21 = .ok (.aload_n 0, 1) := by decide +kernel
theorem dX8_wins_22 : decode cX8_wins 22 = .ok (.invokevirtual 303, 3) := by decide +kernel
theorem dX8_wins_25 : decode cX8_wins 25 = .ok (.aload_n 0, 1) := by decide +kernel
theorem dX8_wins_26 : decode cX8_wins 26 = .ok (.getfield 61, 3) := by decide +kernel
theorem dX8_wins_29 : decode cX8_wins 29 = .ok (.getfield 306, 3) := by decide +kernel
theorem dX8_wins_32 : decode cX8_wins 32 = .ok (.ireturn, 1) := by decide +kernel
theorem dX8_champion_0 : decode cX8_champion 0 = .ok (.aload_n 0, 1) := by decide +kernel
theorem dX8_champion_1 : decode cX8_champion 1 = .ok (.getfield 61, 3) := by decide +kernel
theorem dX8_champion_4 : decode cX8_champion 4 = .ok (.getfield 316, 3) := by decide +kernel
theorem dX8_champion_7 : decode cX8_champion 7 = .ok (.ireturn, 1) := by decide +kernel
theorem dX8_count_0 : decode cX8_count 0 = .ok (.aload_n 0, 1) := by decide +kernel
theorem dX8_count_1 : decode cX8_count 1 = .ok (.iload_n 1, 1) := by decide +kernel
theorem dX8_count_2 : decode cX8_count 2 = .ok (.invokevirtual 319, 3) := by decide +kernel
theorem dX8_count_5 : decode cX8_count 5 = .ok (.ireturn, 1) := by decide +kernel
theorem dX8_finding_0 : decode cX8_finding 0 = .ok (.aload_n 0, 1) := by decide +kernel
theorem dX8_finding_1 : decode cX8_finding 1 = .ok (.getfield 12, 3) := by decide +kernel
theorem dX8_finding_4 : decode cX8_finding 4 = .ok (.getfield 322, 3) := by decide +kernel
theorem dX8_finding_7 : decode cX8_finding 7 = .ok (.ireturn, 1) := by decide +kernel
theorem dX8_findings_0 : decode cX8_findings 0 = .ok (.iload_n 1, 1) := by decide +kernel
theorem dX8_findings_1 : decode cX8_findings 1 = .ok (.iconst 1, 1) := by decide +kernel
theorem dX8_findings_2 : decode cX8_findings 2 = .ok (.if_icmp .lt 8, 3) := by decide +kernel
theorem dX8_findings_5 : decode cX8_findings 5 = .ok (.iload_n 1, 1) := by decide +kernel
theorem dX8_findings_6 : decode cX8_findings 6 = .ok (.iconst 5, 1) := by decide +kernel
theorem dX8_findings_7 : decode cX8_findings 7 = .ok (.if_icmp .le 5, 3) := by decide +kernel
theorem dX8_findings_10 : decode cX8_findings 10 = .ok (.iconst (-1), 1) := by decide +kernel
theorem dX8_findings_11 : decode cX8_findings 11 = .ok (.ireturn, 1) := by decide +kernel
theorem dX8_findings_12 : decode cX8_findings 12 = .ok (.aload_n 0, 1) := by decide +kernel
theorem dX8_findings_13 : decode cX8_findings 13 = .ok (.getfield 12, 3) := by decide +kernel
theorem dX8_findings_16 : decode cX8_findings 16 = .ok (.getfield 325, 3) := by decide +kernel
theorem dX8_findings_19 : decode cX8_findings 19 = .ok (.iload_n 1, 1) := by decide +kernel
theorem dX8_findings_20 : decode cX8_findings 20 = .ok (.iaload, 1) := by decide +kernel
theorem dX8_findings_21 : decode cX8_findings 21 = .ok (.ireturn, 1) := by decide +kernel
theorem dX8_digest_0 : decode cX8_digest 0 = .ok (.ldc2_w 328, 3) := by decide +kernel
theorem dX8_digest_3 : decode cX8_digest 3 = .ok (.lstore_n 1, 1) := by decide +kernel
theorem dX8_digest_4 : decode cX8_digest 4 = .ok (.iconst 0, 1) := by decide +kernel
theorem dX8_digest_5 : decode cX8_digest 5 = .ok (.istore_n 3, 1) := by decide +kernel
theorem dX8_digest_6 : decode cX8_digest 6 = .ok (.iload_n 3, 1) := by decide +kernel
theorem dX8_digest_7 : decode cX8_digest 7 = .ok (.aload_n 0, 1) := by decide +kernel
theorem dX8_digest_8 : decode cX8_digest 8 = .ok (.getfield 19, 3) := by decide +kernel
theorem dX8_digest_11 : decode cX8_digest 11 = .ok (.getfield 72, 3) := by decide +kernel
theorem dX8_digest_14 : decode cX8_digest 14 = .ok (.if_icmp .ge 16, 3) := by decide +kernel
theorem dX8_digest_17 : decode cX8_digest 17 = .ok (.aload_n 0, 1) := by decide +kernel
theorem dX8_digest_18 : decode cX8_digest 18 = .ok (.lload_n 1, 1) := by decide +kernel
theorem dX8_digest_19 : decode cX8_digest 19 = .ok (.iload_n 3, 1) := by decide +kernel
theorem dX8_digest_20 : decode cX8_digest 20 = .ok (.invokevirtual 330, 3) := by decide +kernel
theorem dX8_digest_23 : decode cX8_digest 23 = .ok (.lstore_n 1, 1) := by decide +kernel
theorem dX8_digest_24 : decode cX8_digest 24 = .ok (.iinc 3 1, 3) := by decide +kernel
theorem dX8_digest_27 : decode cX8_digest 27 = .ok (.goto (-21), 3) := by decide +kernel
theorem dX8_digest_30 : decode cX8_digest 30 = .ok (.iconst 0, 1) := by decide +kernel
theorem dX8_digest_31 : decode cX8_digest 31 = .ok (.istore_n 3, 1) := by decide +kernel
theorem dX8_digest_32 : decode cX8_digest 32 = .ok (.iload_n 3, 1) := by decide +kernel
theorem dX8_digest_33 : decode cX8_digest 33 = .ok (.aload_n 0, 1) := by decide +kernel
theorem dX8_digest_34 : decode cX8_digest 34 = .ok (.getfield 19, 3) := by decide +kernel
theorem dX8_digest_37 : decode cX8_digest 37 = .ok (.getfield 112, 3) := by decide +kernel
theorem dX8_digest_40 : decode cX8_digest 40 = .ok (.if_icmp .ge 26, 3) := by decide +kernel
theorem dX8_digest_43 : decode cX8_digest 43 = .ok (.ldc2_w 334, 3) := by decide +kernel
theorem dX8_digest_46 : decode cX8_digest 46 = .ok (.lload_n 1, 1) := by decide +kernel
theorem dX8_digest_47 : decode cX8_digest 47 = .ok (.lmul, 1) := by decide +kernel
theorem dX8_digest_48 : decode cX8_digest 48 = .ok (.aload_n 0, 1) := by decide +kernel
theorem dX8_digest_49 : decode cX8_digest 49 = .ok (.getfield 19, 3) := by decide +kernel
theorem dX8_digest_52 : decode cX8_digest 52 = .ok (.getfield 115, 3) := by decide +kernel
theorem dX8_digest_55 : decode cX8_digest 55 = .ok (.iload_n 3, 1) := by decide +kernel
theorem dX8_digest_56 : decode cX8_digest 56 = .ok (.iaload, 1) := by decide +kernel
theorem dX8_digest_57 : decode cX8_digest 57 = .ok (.i2l, 1) := by decide +kernel
theorem dX8_digest_58 : decode cX8_digest 58 = .ok (.ladd, 1) := by decide +kernel
theorem dX8_digest_59 : decode cX8_digest 59 = .ok (.lstore_n 1, 1) := by decide +kernel
theorem dX8_digest_60 : decode cX8_digest 60 = .ok (.iinc 3 1, 3) := by decide +kernel
theorem dX8_digest_63 : decode cX8_digest 63 = .ok (.goto (-31), 3) := by decide +kernel
theorem dX8_digest_66 : decode cX8_digest 66 = .ok (.iconst 0, 1) := by decide +kernel
theorem dX8_digest_67 : decode cX8_digest 67 = .ok (.istore_n 3, 1) := by decide +kernel
theorem dX8_digest_68 : decode cX8_digest 68 = .ok (.iload_n 3, 1) := by decide +kernel
theorem dX8_digest_69 : decode cX8_digest 69 = .ok (.aload_n 0, 1) := by decide +kernel
theorem dX8_digest_70 : decode cX8_digest 70 = .ok (.getfield 33, 3) := by decide +kernel
theorem dX8_digest_73 : decode cX8_digest 73 = .ok (.getfield 336, 3) := by decide +kernel
theorem dX8_digest_76 : decode cX8_digest 76 = .ok (.if_icmp .ge 42, 3) := by decide +kernel
theorem dX8_digest_79 : decode cX8_digest 79 = .ok (.iconst 0, 1) := by decide +kernel
theorem dX8_digest_80 : decode cX8_digest 80 = .ok (.istore 4, 2) := by decide +kernel
theorem dX8_digest_82 : decode cX8_digest 82 = .ok (.iload 4, 2) := by decide +kernel
theorem dX8_digest_84 : decode cX8_digest 84 = .ok (.iconst 4, 1) := by decide +kernel
theorem dX8_digest_85 : decode cX8_digest 85 = .ok (.if_icmp .ge 27, 3) := by decide +kernel
theorem dX8_digest_88 : decode cX8_digest 88 = .ok (.ldc2_w 334, 3) := by decide +kernel
theorem dX8_digest_91 : decode cX8_digest 91 = .ok (.lload_n 1, 1) := by decide +kernel
theorem dX8_digest_92 : decode cX8_digest 92 = .ok (.lmul, 1) := by decide +kernel
theorem dX8_digest_93 : decode cX8_digest 93 = .ok (.aload_n 0, 1) := by decide +kernel
theorem dX8_digest_94 : decode cX8_digest 94 = .ok (.getfield 33, 3) := by decide +kernel
theorem dX8_digest_97 : decode cX8_digest 97 = .ok (.iload_n 3, 1) := by decide +kernel
theorem dX8_digest_98 : decode cX8_digest 98 = .ok (.iload 4, 2) := by decide +kernel
theorem dX8_digest_100 : decode cX8_digest 100 = .ok (.invokevirtual 222, 3) := by decide +kernel
theorem dX8_digest_103 : decode cX8_digest 103 = .ok (.i2l, 1) := by decide +kernel
theorem dX8_digest_104 : decode cX8_digest 104 = .ok (.ladd, 1) := by decide +kernel
theorem dX8_digest_105 : decode cX8_digest 105 = .ok (.lstore_n 1, 1) := by decide +kernel
theorem dX8_digest_106 : decode cX8_digest 106 = .ok (.iinc 4 1, 3) := by decide +kernel
theorem dX8_digest_109 : decode cX8_digest 109 = .ok (.goto (-27), 3) := by decide +kernel
theorem dX8_digest_112 : decode cX8_digest 112 = .ok (.iinc 3 1, 3) := by decide +kernel
theorem dX8_digest_115 : decode cX8_digest 115 = .ok (.goto (-47), 3) := by decide +kernel
theorem dX8_digest_118 : decode cX8_digest 118 = .ok (.iconst 2, 1) := by decide +kernel
theorem dX8_digest_119 : decode cX8_digest 119 = .ok (.istore_n 3, 1) := by decide +kernel
theorem dX8_digest_120 : decode cX8_digest 120 = .ok (.iload_n 3, 1) := by decide +kernel
theorem dX8_digest_121 : decode cX8_digest 121 = .ok (.bipush 7, 2) := by decide +kernel
theorem dX8_digest_123 : decode cX8_digest 123 = .ok (.if_icmp .gt 22, 3) := by decide +kernel
theorem dX8_digest_126 : decode cX8_digest 126 = .ok (.ldc2_w 334, 3) := by decide +kernel
theorem dX8_digest_129 : decode cX8_digest 129 = .ok (.lload_n 1, 1) := by decide +kernel
theorem dX8_digest_130 : decode cX8_digest 130 = .ok (.lmul, 1) := by decide +kernel
theorem dX8_digest_131 : decode cX8_digest 131 = .ok (.aload_n 0, 1) := by decide +kernel
theorem dX8_digest_132 : decode cX8_digest 132 = .ok (.iload_n 3, 1) := by decide +kernel
theorem dX8_digest_133 : decode cX8_digest 133 = .ok (.invokevirtual 319, 3) := by decide +kernel
theorem dX8_digest_136 : decode cX8_digest 136 = .ok (.i2l, 1) := by decide +kernel
theorem dX8_digest_137 : decode cX8_digest 137 = .ok (.ladd, 1) := by decide +kernel
theorem dX8_digest_138 : decode cX8_digest 138 = .ok (.lstore_n 1, 1) := by decide +kernel
theorem dX8_digest_139 : decode cX8_digest 139 = .ok (.iinc 3 1, 3) := by decide +kernel
theorem dX8_digest_142 : decode cX8_digest 142 = .ok (.goto (-22), 3) := by decide +kernel
theorem dX8_digest_145 : decode cX8_digest 145 = .ok (.ldc2_w 334, 3) := by decide +kernel
theorem dX8_digest_148 : decode cX8_digest 148 = .ok (.lload_n 1, 1) := by decide +kernel
theorem dX8_digest_149 : decode cX8_digest 149 = .ok (.lmul, 1) := by decide +kernel
theorem dX8_digest_150 : decode cX8_digest 150 = .ok (.aload_n 0, 1) := by decide +kernel
theorem dX8_digest_151 : decode cX8_digest 151 = .ok (.getfield 61, 3) := by decide +kernel
theorem dX8_digest_154 : decode cX8_digest 154 = .ok (.getfield 316, 3) := by decide +kernel
theorem dX8_digest_157 : decode cX8_digest 157 = .ok (.i2l, 1) := by decide +kernel
theorem dX8_digest_158 : decode cX8_digest 158 = .ok (.ladd, 1) := by decide +kernel
theorem dX8_digest_159 : decode cX8_digest 159 = .ok (.lstore_n 1, 1) := by decide +kernel
theorem dX8_digest_160 : decode cX8_digest 160 = .ok (.iconst 0, 1) := by decide +kernel
theorem dX8_digest_161 : decode cX8_digest 161 = .ok (.istore_n 3, 1) := by decide +kernel
theorem dX8_digest_162 : decode cX8_digest 162 = .ok (.iload_n 3, 1) := by decide +kernel
theorem dX8_digest_163 : decode cX8_digest 163 = .ok (.iconst 4, 1) := by decide +kernel
theorem dX8_digest_164 : decode cX8_digest 164 = .ok (.if_icmp .ge 16, 3) := by decide +kernel
theorem dX8_digest_167 : decode cX8_digest 167 = .ok (.aload_n 0, 1) := by decide +kernel
theorem dX8_digest_168 : decode cX8_digest 168 = .ok (.lload_n 1, 1) := by decide +kernel
theorem dX8_digest_169 : decode cX8_digest 169 = .ok (.iload_n 3, 1) := by decide +kernel
theorem dX8_digest_170 : decode cX8_digest 170 = .ok (.invokevirtual 339, 3) := by decide +kernel
theorem dX8_digest_173 : decode cX8_digest 173 = .ok (.lstore_n 1, 1) := by decide +kernel
theorem dX8_digest_174 : decode cX8_digest 174 = .ok (.iinc 3 1, 3) := by decide +kernel
theorem dX8_digest_177 : decode cX8_digest 177 = .ok (.goto (-15), 3) := by decide +kernel
theorem dX8_digest_180 : decode cX8_digest 180 = .ok (.lload_n 1, 1) := by decide +kernel
theorem dX8_digest_181 : decode cX8_digest 181 = .ok (.lreturn, 1) := by decide +kernel
theorem dX8_isKind_0 : decode cX8_isKind 0 = .ok (.iload_n 0, 1) := by decide +kernel
theorem dX8_isKind_1 : decode cX8_isKind 1 = .ok (.ifCond .lt 12, 3) := by decide +kernel
theorem dX8_isKind_4 : decode cX8_isKind 4 = .ok (.iload_n 0, 1) := by decide +kernel
theorem dX8_isKind_5 : decode cX8_isKind 5 = .ok (.iconst 2, 1) := by decide +kernel
theorem dX8_isKind_6 : decode cX8_isKind 6 = .ok (.if_icmp .gt 7, 3) := by decide +kernel
theorem dX8_isKind_9 : decode cX8_isKind 9 = .ok (.iconst 1, 1) := by decide +kernel
theorem dX8_isKind_10 : decode cX8_isKind 10 = .ok (.goto 4, 3) := by decide +kernel
theorem dX8_isKind_13 : decode cX8_isKind 13 = .ok (.iconst 0, 1) := by decide +kernel
theorem dX8_isKind_14 : decode cX8_isKind 14 = .ok (.ireturn, 1) := by decide +kernel
theorem dX8_isGroup_0 : decode cX8_isGroup 0 = .ok (.iload_n 0, 1) := by decide +kernel
theorem dX8_isGroup_1 : decode cX8_isGroup 1 = .ok (.ifCond .lt 13, 3) := by decide +kernel
theorem dX8_isGroup_4 : decode cX8_isGroup 4 = .ok (.iload_n 0, 1) := by decide +kernel
theorem dX8_isGroup_5 : decode cX8_isGroup 5 = .ok (.bipush 8, 2) := by decide +kernel
theorem dX8_isGroup_7 : decode cX8_isGroup 7 = .ok (.if_icmp .ge 7, 3) := by decide +kernel
theorem dX8_isGroup_10 : decode cX8_isGroup 10 = .ok (.iconst 1, 1) := by decide +kernel
theorem dX8_isGroup_11 : decode cX8_isGroup 11 = .ok (.goto 4, 3) := by decide +kernel
theorem dX8_isGroup_14 : decode cX8_isGroup 14 = .ok (.iconst 0, 1) := by decide +kernel
theorem dX8_isGroup_15 : decode cX8_isGroup 15 = .ok (.ireturn, 1) := by decide +kernel
theorem dX8_isSheet_0 : decode cX8_isSheet 0 = .ok (.iload_n 0, 1) := by decide +kernel
theorem dX8_isSheet_1 : decode cX8_isSheet 1 = .ok (.ifCond .lt 12, 3) := by decide +kernel
theorem dX8_isSheet_4 : decode cX8_isSheet 4 = .ok (.iload_n 0, 1) := by decide +kernel
theorem dX8_isSheet_5 : decode cX8_isSheet 5 = .ok (.iconst 4, 1) := by decide +kernel
theorem dX8_isSheet_6 : decode cX8_isSheet 6 = .ok (.if_icmp .ge 7, 3) := by decide +kernel
theorem dX8_isSheet_9 : decode cX8_isSheet 9 = .ok (.iconst 1, 1) := by decide +kernel
theorem dX8_isSheet_10 : decode cX8_isSheet 10 = .ok (.goto 4, 3) := by decide +kernel
theorem dX8_isSheet_13 : decode cX8_isSheet 13 = .ok (.iconst 0, 1) := by decide +kernel
theorem dX8_isSheet_14 : decode cX8_isSheet 14 = .ok (.ireturn, 1) := by decide +kernel
theorem dX8_refusalOf_0 : decode cX8_refusalOf 0 = .ok (.aload_n 0, 1) := by decide +kernel
theorem dX8_refusalOf_1 : decode cX8_refusalOf 1 = .ok (.getfield 19, 3) := by decide +kernel
theorem dX8_refusalOf_4 : decode cX8_refusalOf 4 = .ok (.iload_n 1, 1) := by decide +kernel
theorem dX8_refusalOf_5 : decode cX8_refusalOf 5 = .ok (.invokevirtual 87, 3) := by decide +kernel
theorem dX8_refusalOf_8 : decode cX8_refusalOf 8 = .ok (.ifCond .ne 5, 3) := by decide +kernel
theorem dX8_refusalOf_11 : decode cX8_refusalOf 11 = .ok (.iconst (-1), 1) := by decide +kernel
theorem dX8_refusalOf_12 : decode cX8_refusalOf 12 = .ok (.ireturn, 1) := by decide +kernel
theorem dX8_refusalOf_13 : decode cX8_refusalOf 13 = .ok (.aload_n 0, 1) := by decide +kernel
theorem dX8_refusalOf_14 : decode cX8_refusalOf 14 = .ok (.getfield 19, 3) := by decide +kernel
theorem dX8_refusalOf_17 : decode cX8_refusalOf 17 = .ok (.getfield 90, 3) := by decide +kernel
theorem dX8_refusalOf_20 : decode cX8_refusalOf 20 = .ok (.iload_n 1, 1) := by decide +kernel
theorem dX8_refusalOf_21 : decode cX8_refusalOf 21 = .ok (.baload, 1) := by decide +kernel
theorem dX8_refusalOf_22 : decode cX8_refusalOf 22 = .ok (.ifCond .eq 14, 3) := by decide +kernel
theorem dX8_refusalOf_25 : decode cX8_refusalOf 25 = .ok (.aload_n 0, 1) := by decide +kernel
theorem dX8_refusalOf_26 : decode cX8_refusalOf 26 = .ok (.getfield 12, 3) := by decide +kernel
theorem dX8_refusalOf_29 : decode cX8_refusalOf 29 = .ok (.iconst 1, 1) := by decide +kernel
theorem dX8_refusalOf_30 : decode cX8_refusalOf 30 = .ok (.invokevirtual 94, 3) := by decide +kernel
theorem dX8_refusalOf_33 : decode cX8_refusalOf 33 = .ok (.goto 4, 3) := by decide +kernel
theorem dX8_refusalOf_36 : decode cX8_refusalOf 36 = .ok (.iconst 0, 1) := by decide +kernel
theorem dX8_refusalOf_37 : decode cX8_refusalOf 37 = .ok (.ireturn, 1) := by decide +kernel
theorem dX8_barsBetween_0 : decode cX8_barsBetween 0 = .ok (.iconst 0, 1) := by decide +kernel
theorem dX8_barsBetween_1 : decode cX8_barsBetween 1 = .ok (.istore_n 3, 1) := by decide +kernel
theorem dX8_barsBetween_2 : decode cX8_barsBetween 2 = .ok (.aload_n 0, 1) := by decide +kernel
theorem dX8_barsBetween_3 : decode cX8_barsBetween 3 = .ok (.getfield 19, 3) := by decide +kernel
theorem dX8_barsBetween_6 : decode cX8_barsBetween 6 = .ok (.getfield 122, 3) := by decide +kernel
theorem dX8_barsBetween_9 : decode cX8_barsBetween 9 = .ok (.iload_n 1, 1) := by decide +kernel
theorem dX8_barsBetween_10 : decode cX8_barsBetween 10 = .ok (.iaload, 1) := by decide +kernel
theorem dX8_barsBetween_11 : decode cX8_barsBetween 11 = .ok (.aload_n 0, 1) := by decide +kernel
theorem dX8_barsBetween_12 : decode cX8_barsBetween 12 = .ok (.getfield 19, 3) := by decide +kernel
theorem dX8_barsBetween_15 : decode cX8_barsBetween 15 = .ok (.getfield 122, 3) := by decide +kernel
theorem dX8_barsBetween_18 : decode cX8_barsBetween 18 = .ok (.iload_n 2, 1) := by decide +kernel
theorem dX8_barsBetween_19 : decode cX8_barsBetween 19 = .ok (.iaload, 1) := by decide +kernel
theorem dX8_barsBetween_20 : decode cX8_barsBetween 20 = .ok (.if_icmp .ne 7, 3) := by decide +kernel
theorem dX8_barsBetween_23 : decode cX8_barsBetween 23 = .ok (.iload_n 3, 1) := by decide +kernel
theorem dX8_barsBetween_24 : decode cX8_barsBetween 24 = .ok (.iconst 1, 1) := by decide +kernel
theorem dX8_barsBetween_25 : decode cX8_barsBetween 25 = .ok (.ior, 1) := by decide +kernel
theorem dX8_barsBetween_26 : decode cX8_barsBetween 26 = .ok (.istore_n 3, 1) := by decide +kernel
theorem dX8_barsBetween_27 : decode cX8_barsBetween 27 = .ok (.aload_n 0, 1) := by decide +kernel
theorem dX8_barsBetween_28 : decode cX8_barsBetween 28 = .ok (.getfield 19, 3) := by decide +kernel
theorem dX8_barsBetween_31 : decode cX8_barsBetween 31 = .ok (.getfield 342, 3) := by decide +kernel
theorem dX8_barsBetween_34 : decode cX8_barsBetween 34 = .ok (.iload_n 1, 1) := by decide +kernel
theorem dX8_barsBetween_35 : decode cX8_barsBetween 35 = .ok (.iaload, 1) := by decide +kernel
theorem dX8_barsBetween_36 : decode cX8_barsBetween 36 = .ok (.bipush (-9), 2) := by decide +kernel
theorem dX8_barsBetween_38 : decode cX8_barsBetween 38 = .ok (.if_icmp .eq 28, 3) := by decide +kernel
theorem dX8_barsBetween_41 : decode cX8_barsBetween 41 = .ok (.aload_n 0, 1) := by decide +kernel
theorem dX8_barsBetween_42 : decode cX8_barsBetween 42 = .ok (.getfield 19, 3) := by decide +kernel
theorem dX8_barsBetween_45 : decode cX8_barsBetween 45 = .ok (.getfield 342, 3) := by decide +kernel
theorem dX8_barsBetween_48 : decode cX8_barsBetween 48 = .ok (.iload_n 1, 1) := by decide +kernel
theorem dX8_barsBetween_49 : decode cX8_barsBetween 49 = .ok (.iaload, 1) := by decide +kernel
theorem dX8_barsBetween_50 : decode cX8_barsBetween 50 = .ok (.aload_n 0, 1) := by decide +kernel
theorem dX8_barsBetween_51 : decode cX8_barsBetween 51 = .ok (.getfield 19, 3) := by decide +kernel
theorem dX8_barsBetween_54 : decode cX8_barsBetween 54 = .ok (.getfield 342, 3) := by decide +kernel
theorem dX8_barsBetween_57 : decode cX8_barsBetween 57 = .ok (.iload_n 2, 1) := by decide +kernel
theorem dX8_barsBetween_58 : decode cX8_barsBetween 58 = .ok (.iaload, 1) := by decide +kernel
theorem dX8_barsBetween_59 : decode cX8_barsBetween 59 = .ok (.if_icmp .ne 7, 3) := by decide +kernel
theorem dX8_barsBetween_62 : decode cX8_barsBetween 62 = .ok (.iload_n 3, 1) := by decide +kernel
theorem dX8_barsBetween_63 : decode cX8_barsBetween 63 = .ok (.iconst 2, 1) := by decide +kernel
theorem dX8_barsBetween_64 : decode cX8_barsBetween 64 = .ok (.ior, 1) := by decide +kernel
theorem dX8_barsBetween_65 : decode cX8_barsBetween 65 = .ok (.istore_n 3, 1) := by decide +kernel
theorem dX8_barsBetween_66 : decode cX8_barsBetween 66 = .ok (.aload_n 0, 1) := by decide +kernel
theorem dX8_barsBetween_67 : decode cX8_barsBetween 67 = .ok (.getfield 33, 3) := by decide +kernel
theorem dX8_barsBetween_70 : decode cX8_barsBetween 70 = .ok (.getfield 76, 3) := by decide +kernel
theorem dX8_barsBetween_73 : decode cX8_barsBetween 73 = .ok (.ifCond .eq 19, 3) := by decide +kernel
theorem dX8_barsBetween_76 : decode cX8_barsBetween 76 = .ok (.aload_n 0, 1) := by decide +kernel
theorem dX8_barsBetween_77 : decode cX8_barsBetween 77 = .ok (.getfield 33, 3) := by decide +kernel
theorem dX8_barsBetween_80 : decode cX8_barsBetween 80 = .ok (.iload_n 1, 1) := by decide +kernel
theorem dX8_barsBetween_81 : decode cX8_barsBetween 81 = .ok (.iload_n 2, 1) := by decide +kernel
theorem dX8_barsBetween_82 : decode cX8_barsBetween 82 = .ok (.invokevirtual 345, 3) := by decide +kernel
theorem dX8_barsBetween_85 : decode cX8_barsBetween 85 = .ok (.ifCond .eq 7, 3) := by decide +kernel
theorem dX8_barsBetween_88 : decode cX8_barsBetween 88 = .ok (.iload_n 3, 1) := by decide +kernel
theorem dX8_barsBetween_89 : decode cX8_barsBetween 89 = .ok (.iconst 4, 1) := by decide +kernel
theorem dX8_barsBetween_90 : decode cX8_barsBetween 90 = .ok (.ior, 1) := by decide +kernel
theorem dX8_barsBetween_91 : decode cX8_barsBetween 91 = .ok (.istore_n 3, 1) := by decide +kernel
theorem dX8_barsBetween_92 : decode cX8_barsBetween 92 = .ok (.iload_n 3, 1) := by decide +kernel
theorem dX8_barsBetween_93 : decode cX8_barsBetween 93 = .ok (.ireturn, 1) := by decide +kernel
theorem dX8_gatherThosePresent_0 : decode cX8_gatherThosePresent 0 = .ok (.aload_n 0, 1) := by decide +kernel
theorem dX8_gatherThosePresent_1 : decode cX8_gatherThosePresent 1 = .ok (.getfield 40, 3) := by decide +kernel
theorem dX8_gatherThosePresent_4 : decode cX8_gatherThosePresent 4 = .ok (.iconst 0, 1) := by decide +kernel
theorem dX8_gatherThosePresent_5 : decode cX8_gatherThosePresent 5 = .ok (.putfield 348, 3) := by decide +kernel
theorem dX8_gatherThosePresent_8 : decode cX8_gatherThosePresent 8 = .ok (.iconst 0, 1) := by decide +kernel
theorem dX8_gatherThosePresent_9 : decode cX8_gatherThosePresent 9 = .ok (.istore_n 1, 1) := by decide +kernel
theorem dX8_gatherThosePresent_10 : decode cX8_gatherThosePresent 10 = .ok (.iload_n 1, 1) := by decide +kernel
theorem dX8_gatherThosePresent_11 : decode cX8_gatherThosePresent 11 = .ok (.aload_n 0, 1) := by decide +kernel
theorem dX8_gatherThosePresent_12 : decode cX8_gatherThosePresent 12 = .ok (.getfield 19, 3) := by decide +kernel
theorem dX8_gatherThosePresent_15 : decode cX8_gatherThosePresent 15 = .ok (.getfield 112, 3) := by decide +kernel
theorem dX8_gatherThosePresent_18 : decode cX8_gatherThosePresent 18 = .ok (.if_icmp .ge 60, 3) := by decide +kernel
theorem dX8_gatherThosePresent_21 : decode cX8_gatherThosePresent 21 = .ok (.aload_n 0, 1) := by decide +kernel
theorem dX8_gatherThosePresent_22 : decode cX8_gatherThosePresent 22 = .ok (.getfield 19, 3) := by decide +kernel
theorem dX8_gatherThosePresent_25 : decode cX8_gatherThosePresent 25 = .ok (.getfield 115, 3) := by decide +kernel
theorem dX8_gatherThosePresent_28 : decode cX8_gatherThosePresent 28 = .ok (.iload_n 1, 1) := by decide +kernel
theorem dX8_gatherThosePresent_29 : decode cX8_gatherThosePresent 29 = .ok (.iaload, 1) := by decide +kernel
theorem dX8_gatherThosePresent_30 : decode cX8_gatherThosePresent 30 = .ok (.istore_n 2, 1) := by decide +kernel
theorem dX8_gatherThosePresent_31 : decode cX8_gatherThosePresent 31 = .ok (.aload_n 0, 1) := by decide +kernel
theorem dX8_gatherThosePresent_32 : decode cX8_gatherThosePresent 32 = .ok (.getfield 19, 3) := by decide +kernel
theorem dX8_gatherThosePresent_35 : decode cX8_gatherThosePresent 35 = .ok (.getfield 175, 3) := by decide +kernel
theorem dX8_gatherThosePresent_38 : decode cX8_gatherThosePresent 38 = .ok (.iload_n 2, 1) := by decide +kernel
theorem dX8_gatherThosePresent_39 : decode cX8_gatherThosePresent 39 = .ok (.baload, 1) := by decide +kernel
theorem dX8_gatherThosePresent_40 : decode cX8_gatherThosePresent 40 = .ok (.ifCond .ne 32, 3) := by decide +kernel
theorem dX8_gatherThosePresent_43 : decode cX8_gatherThosePresent 43 = .ok (.aload_n 0, 1) := by decide +kernel
theorem dX8_gatherThosePresent_44 : decode cX8_gatherThosePresent 44 = .ok (.getfield 40, 3) := by decide +kernel
theorem dX8_gatherThosePresent_47 : decode cX8_gatherThosePresent 47 = .ok (.getfield 350, 3) := by decide +kernel
theorem dX8_gatherThosePresent_50 : decode cX8_gatherThosePresent 50 = .ok (.aload_n 0, 1) := by decide +kernel
theorem dX8_gatherThosePresent_51 : decode cX8_gatherThosePresent 51 = .ok (.getfield 40, 3) := by decide +kernel
theorem dX8_gatherThosePresent_54 : decode cX8_gatherThosePresent 54 = .ok (.getfield 348, 3) := by decide +kernel
theorem dX8_gatherThosePresent_57 : decode cX8_gatherThosePresent 57 = .ok (.iload_n 2, 1) := by decide +kernel
theorem dX8_gatherThosePresent_58 : decode cX8_gatherThosePresent 58 = .ok (.iastore, 1) := by decide +kernel
theorem dX8_gatherThosePresent_59 : decode cX8_gatherThosePresent 59 = .ok (.aload_n 0, 1) := by decide +kernel
theorem dX8_gatherThosePresent_60 : decode cX8_gatherThosePresent 60 = .ok (.getfield 40, 3) := by decide +kernel
theorem dX8_gatherThosePresent_63 : decode cX8_gatherThosePresent 63 = .ok (.dup, 1) := by decide +kernel
theorem dX8_gatherThosePresent_64 : decode cX8_gatherThosePresent 64 = .ok (.getfield 348, 3) := by decide +kernel
theorem dX8_gatherThosePresent_67 : decode cX8_gatherThosePresent 67 = .ok (.iconst 1, 1) := by decide +kernel
theorem dX8_gatherThosePresent_68 : decode cX8_gatherThosePresent 68 = .ok (.iadd, 1) := by decide +kernel
theorem dX8_gatherThosePresent_69 : decode cX8_gatherThosePresent 69 = .ok (.putfield 348, 3) := by decide +kernel
theorem dX8_gatherThosePresent_72 : decode cX8_gatherThosePresent 72 = .ok (.iinc 1 1, 3) := by decide +kernel
theorem dX8_gatherThosePresent_75 : decode cX8_gatherThosePresent 75 = .ok (.goto (-65), 3) := by decide +kernel
theorem dX8_gatherThosePresent_78 : decode cX8_gatherThosePresent 78 = .ok (.return_, 1) := by decide +kernel
theorem dX8_setCharges_0 : decode cX8_setCharges 0 = .ok (.iconst 0, 1) := by decide +kernel
theorem dX8_setCharges_1 : decode cX8_setCharges 1 = .ok (.istore_n 1, 1) := by decide +kernel
theorem dX8_setCharges_2 : decode cX8_setCharges 2 = .ok (.iload_n 1, 1) := by decide +kernel
theorem dX8_setCharges_3 : decode cX8_setCharges 3 = .ok (.aload_n 0, 1) := by decide +kernel
theorem dX8_setCharges_4 : decode cX8_setCharges 4 = .ok (.getfield 40, 3) := by decide +kernel
theorem dX8_setCharges_7 : decode cX8_setCharges 7 = .ok (.getfield 348, 3) := by decide +kernel
theorem dX8_setCharges_10 : decode cX8_setCharges 10 = .ok (.if_icmp .ge 63, 3) := by decide +kernel
theorem dX8_setCharges_13 : decode cX8_setCharges 13 = .ok (.iload_n 1, 1) := by decide +kernel
theorem dX8_setCharges_14 : decode cX8_setCharges 14 = .ok (.iconst 1, 1) := by decide +kernel
theorem dX8_setCharges_15 : decode cX8_setCharges 15 = .ok (.iadd, 1) := by decide +kernel
theorem dX8_setCharges_16 : decode cX8_setCharges 16 = .ok (.istore_n 2, 1) := by decide +kernel
theorem dX8_setCharges_17 : decode cX8_setCharges 17 = .ok (.iload_n 2, 1) := by decide +kernel
theorem dX8_setCharges_18 : decode cX8_setCharges 18 = .ok (.aload_n 0, 1) := by decide +kernel
theorem dX8_setCharges_19 : decode cX8_setCharges 19 = .ok (.getfield 40, 3) := by decide +kernel
theorem dX8_setCharges_22 : decode cX8_setCharges 22 = .ok (.getfield 348, 3) := by decide +kernel
theorem dX8_setCharges_25 : decode cX8_setCharges 25 = .ok (.if_icmp .ge 42, 3) := by decide +kernel
theorem dX8_setCharges_28 : decode cX8_setCharges 28 = .ok (.aload_n 0, 1) := by decide +kernel
theorem dX8_setCharges_29 : decode cX8_setCharges 29 = .ok (.getfield 40, 3) := by decide +kernel
theorem dX8_setCharges_32 : decode cX8_setCharges 32 = .ok (.getfield 353, 3) := by decide +kernel
theorem dX8_setCharges_35 : decode cX8_setCharges 35 = .ok (.iload_n 1, 1) := by decide +kernel
theorem dX8_setCharges_36 : decode cX8_setCharges 36 = .ok (.aaload, 1) := by decide +kernel
theorem dX8_setCharges_37 : decode cX8_setCharges 37 = .ok (.iload_n 2, 1) := by decide +kernel
theorem dX8_setCharges_38 : decode cX8_setCharges 38 = .ok (.aload_n 0, 1) := by decide +kernel
theorem dX8_setCharges_39 : decode cX8_setCharges 39 = .ok (.aload_n 0, 1) := by decide +kernel
theorem dX8_setCharges_40 : decode cX8_setCharges 40 = .ok (.getfield 40, 3) := by decide +kernel
theorem dX8_setCharges_43 : decode cX8_setCharges 43 = .ok (.getfield 350, 3) := by decide +kernel
theorem dX8_setCharges_46 : decode cX8_setCharges 46 = .ok (.iload_n 1, 1) := by decide +kernel
theorem dX8_setCharges_47 : decode cX8_setCharges 47 = .ok (.iaload, 1) := by decide +kernel
theorem dX8_setCharges_48 : decode cX8_setCharges 48 = .ok (.aload_n 0, 1) := by decide +kernel
theorem dX8_setCharges_49 : decode cX8_setCharges 49 = .ok (.getfield 40, 3) := by decide +kernel
theorem dX8_setCharges_52 : decode cX8_setCharges 52 = .ok (.getfield 350, 3) := by decide +kernel
theorem dX8_setCharges_55 : decode cX8_setCharges 55 = .ok (.iload_n 2, 1) := by decide +kernel
theorem dX8_setCharges_56 : decode cX8_setCharges 56 = .ok (.iaload, 1) := by decide +kernel
theorem dX8_setCharges_57 : decode cX8_setCharges 57 = .ok (.invokevirtual 357, 3) := by decide +kernel
theorem dX8_setCharges_60 : decode cX8_setCharges 60 = .ok (.iastore, 1) := by decide +kernel
theorem dX8_setCharges_61 : decode cX8_setCharges 61 = .ok (.iinc 2 1, 3) := by decide +kernel
theorem dX8_setCharges_64 : decode cX8_setCharges 64 = .ok (.goto (-47), 3) := by decide +kernel
theorem dX8_setCharges_67 : decode cX8_setCharges 67 = .ok (.iinc 1 1, 3) := by decide +kernel
theorem dX8_setCharges_70 : decode cX8_setCharges 70 = .ok (.goto (-68), 3) := by decide +kernel
theorem dX8_setCharges_73 : decode cX8_setCharges 73 = .ok (.return_, 1) := by decide +kernel
theorem dX8_chargeFor_0 : decode cX8_chargeFor 0 = .ok (.aload_n 0, 1) := by decide +kernel
theorem dX8_chargeFor_1 : decode cX8_chargeFor 1 = .ok (.iload_n 1, 1) := by decide +kernel
theorem dX8_chargeFor_2 : decode cX8_chargeFor 2 = .ok (.iload_n 2, 1) := by decide +kernel
theorem dX8_chargeFor_3 : decode cX8_chargeFor 3 = .ok (.invokevirtual 178, 3) := by decide +kernel
theorem dX8_chargeFor_6 : decode cX8_chargeFor 6 = .ok (.ifCond .eq 5, 3) := by decide +kernel
theorem dX8_chargeFor_9 : decode cX8_chargeFor 9 = .ok (.iconst (-1), 1) := by decide +kernel
theorem dX8_chargeFor_10 : decode cX8_chargeFor 10 = .ok (.ireturn, 1) := by decide +kernel
theorem dX8_chargeFor_11 : decode cX8_chargeFor 11 = .ok (.aload_n 0, 1) := by decide +kernel
theorem dX8_chargeFor_12 : decode cX8_chargeFor 12 = .ok (.getfield 19, 3) := by decide +kernel
theorem dX8_chargeFor_15 : decode cX8_chargeFor 15 = .ok (.getfield 125, 3) := by decide +kernel
theorem dX8_chargeFor_18 : decode cX8_chargeFor 18 = .ok (.iload_n 1, 1) := by decide +kernel
theorem dX8_chargeFor_19 : decode cX8_chargeFor 19 = .ok (.iaload, 1) := by decide +kernel
theorem dX8_chargeFor_20 : decode cX8_chargeFor 20 = .ok (.aload_n 0, 1) := by decide +kernel
theorem dX8_chargeFor_21 : decode cX8_chargeFor 21 = .ok (.getfield 19, 3) := by decide +kernel
theorem dX8_chargeFor_24 : decode cX8_chargeFor 24 = .ok (.getfield 125, 3) := by decide +kernel
theorem dX8_chargeFor_27 : decode cX8_chargeFor 27 = .ok (.iload_n 2, 1) := by decide +kernel
theorem dX8_chargeFor_28 : decode cX8_chargeFor 28 = .ok (.iaload, 1) := by decide +kernel
theorem dX8_chargeFor_29 : decode cX8_chargeFor 29 = .ok (.isub, 1) := by decide +kernel
theorem dX8_chargeFor_30 : decode cX8_chargeFor 30 = .ok (.invokestatic 360, 3) := by decide +kernel
theorem dX8_chargeFor_33 : decode cX8_chargeFor 33 = .ok (.istore_n 3, 1) := by decide +kernel
theorem dX8_chargeFor_34 : decode cX8_chargeFor 34 = .ok (.aload_n 0, 1) := by decide +kernel
theorem dX8_chargeFor_35 : decode cX8_chargeFor 35 = .ok (.getfield 26, 3) := by decide +kernel
theorem dX8_chargeFor_38 : decode cX8_chargeFor 38 = .ok (.iload_n 3, 1) := by decide +kernel
theorem dX8_chargeFor_39 : decode cX8_chargeFor 39 = .ok (.invokevirtual 162, 3) := by decide +kernel
theorem dX8_chargeFor_42 : decode cX8_chargeFor 42 = .ok (.aload_n 0, 1) := by decide +kernel
theorem dX8_chargeFor_43 : decode cX8_chargeFor 43 = .ok (.getfield 19, 3) := by decide +kernel
theorem dX8_chargeFor_46 : decode cX8_chargeFor 46 = .ok (.getfield 365, 3) := by decide +kernel
theorem dX8_chargeFor_49 : decode cX8_chargeFor 49 = .ok (.iload_n 2, 1) := by decide +kernel
theorem dX8_chargeFor_50 : decode cX8_chargeFor 50 = .ok (.iaload, 1) := by decide +kernel
theorem dX8_chargeFor_51 : decode cX8_chargeFor 51 = .ok (.iadd, 1) := by decide +kernel
theorem dX8_chargeFor_52 : decode cX8_chargeFor 52 = .ok (.aload_n 0, 1) := by decide +kernel
theorem dX8_chargeFor_53 : decode cX8_chargeFor 53 = .ok (.getfield 19, 3) := by decide +kernel
theorem dX8_chargeFor_56 : decode cX8_chargeFor 56 = .ok (.getfield 365, 3) := by decide +kernel
theorem dX8_chargeFor_59 : decode cX8_chargeFor 59 = .ok (.iload_n 1, 1) := by decide +kernel
theorem dX8_chargeFor_60 : decode cX8_chargeFor 60 = .ok (.iaload, 1) := by decide +kernel
theorem dX8_chargeFor_61 : decode cX8_chargeFor 61 = .ok (.isub, 1) := by decide +kernel
theorem dX8_chargeFor_62 : decode cX8_chargeFor 62 = .ok (.ireturn, 1) := by decide +kernel
theorem dX8_enterDay_0 : decode cX8_enterDay 0 = .ok (.iconst 0, 1) := by decide +kernel
theorem dX8_enterDay_1 : decode cX8_enterDay 1 = .ok (.istore_n 1, 1) := by decide +kernel
theorem dX8_enterDay_2 : decode cX8_enterDay 2 = .ok (.aload_n 0, 1) := by decide +kernel
theorem dX8_enterDay_3 : decode cX8_enterDay 3 = .ok (.getfield 33, 3) := by decide +kernel
theorem dX8_enterDay_6 : decode cX8_enterDay 6 = .ok (.iconst 0, 1) := by decide +kernel
theorem dX8_enterDay_7 : decode cX8_enterDay 7 = .ok (.putfield 223, 3) := by decide +kernel
theorem dX8_enterDay_10 : decode cX8_enterDay 10 = .ok (.iconst 0, 1) := by decide +kernel
theorem dX8_enterDay_11 : decode cX8_enterDay 11 = .ok (.istore_n 2, 1) := by decide +kernel
theorem dX8_enterDay_12 : decode cX8_enterDay 12 = .ok (.iload_n 2, 1) := by decide +kernel
theorem dX8_enterDay_13 : decode cX8_enterDay 13 = .ok (.aload_n 0, 1) := by decide +kernel
theorem dX8_enterDay_14 : decode cX8_enterDay 14 = .ok (.getfield 40, 3) := by decide +kernel
theorem dX8_enterDay_17 : decode cX8_enterDay 17 = .ok (.getfield 348, 3) := by decide +kernel
theorem dX8_enterDay_20 : decode cX8_enterDay 20 = .ok (.if_icmp .ge 84, 3) := by decide +kernel
theorem dX8_enterDay_23 : decode cX8_enterDay 23 = .ok (.aload_n 0, 1) := by decide +kernel
theorem dX8_enterDay_24 : decode cX8_enterDay 24 = .ok (.getfield 40, 3) := by decide +kernel
theorem dX8_enterDay_27 : decode cX8_enterDay 27 = .ok (.getfield 368, 3) := by decide +kernel
theorem dX8_enterDay_30 : decode cX8_enterDay 30 = .ok (.iload_n 2, 1) := by decide +kernel
theorem dX8_enterDay_31 : decode cX8_enterDay 31 = .ok (.iaload, 1) := by decide +kernel
theorem dX8_enterDay_32 : decode cX8_enterDay 32 = .ok (.istore_n 3, 1) := by decide +kernel
theorem dX8_enterDay_33 : decode cX8_enterDay 33 = .ok (.iload_n 3, 1) := by decide +kernel
theorem dX8_enterDay_34 : decode cX8_enterDay 34 = .ok (.bipush (-9), 2) := by decide +kernel
theorem dX8_enterDay_36 : decode cX8_enterDay 36 = .ok (.if_icmp .ne 29, 3) := by decide +kernel
theorem dX8_enterDay_39 : decode cX8_enterDay 39 = .ok (.aload_n 0, 1) := by decide +kernel
theorem dX8_enterDay_40 : decode cX8_enterDay 40 = .ok (.getfield 33, 3) := by decide +kernel
theorem dX8_enterDay_43 : decode cX8_enterDay 43 = .ok (.dup, 1) := by decide +kernel
theorem dX8_enterDay_44 : decode cX8_enterDay 44 = .ok (.getfield 223, 3) := by decide +kernel
theorem dX8_enterDay_47 : decode cX8_enterDay 47 = .ok (.iconst 1, 1) := by decide +kernel
theorem dX8_enterDay_48 : decode cX8_enterDay 48 = .ok (.aload_n 0, 1) := by decide +kernel
theorem dX8_enterDay_49 : decode cX8_enterDay 49 = .ok (.getfield 40, 3) := by decide +kernel
theorem dX8_enterDay_52 : decode cX8_enterDay 52 = .ok (.getfield 350, 3) := by decide +kernel
theorem dX8_enterDay_55 : decode cX8_enterDay 55 = .ok (.iload_n 2, 1) := by decide +kernel
theorem dX8_enterDay_56 : decode cX8_enterDay 56 = .ok (.iaload, 1) := by decide +kernel
theorem dX8_enterDay_57 : decode cX8_enterDay 57 = .ok (.ishl, 1) := by decide +kernel
theorem dX8_enterDay_58 : decode cX8_enterDay 58 = .ok (.ior, 1) := by decide +kernel
theorem dX8_enterDay_59 : decode cX8_enterDay 59 = .ok (.putfield 223, 3) := by decide +kernel
theorem dX8_enterDay_62 : decode cX8_enterDay 62 = .ok (.goto 36, 3) := by decide +kernel
theorem dX8_enterDay_65 : decode cX8_enterDay 65 = .ok (.iload_n 3, 1) := by decide +kernel
theorem dX8_enterDay_66 : decode cX8_enterDay 66 = .ok (.iload_n 2, 1) := by decide +kernel
theorem dX8_enterDay_67 : decode cX8_enterDay 67 = .ok (.if_icmp .le 31, 3) := by decide +kernel
theorem dX8_enterDay_70 : decode cX8_enterDay 70 = .ok (.aload_n 0, 1) := by decide +kernel
theorem dX8_enterDay_71 : decode cX8_enterDay 71 = .ok (.getfield 33, 3) := by decide +kernel
theorem dX8_enterDay_74 : decode cX8_enterDay 74 = .ok (.aload_n 0, 1) := by decide +kernel
theorem dX8_enterDay_75 : decode cX8_enterDay 75 = .ok (.getfield 40, 3) := by decide +kernel
theorem dX8_enterDay_78 : decode cX8_enterDay 78 = .ok (.getfield 350, 3) := by decide +kernel
theorem dX8_enterDay_81 : decode cX8_enterDay 81 = .ok (.iload_n 2, 1) := by decide +kernel
theorem dX8_enterDay_82 : decode cX8_enterDay 82 = .ok (.iaload, 1) := by decide +kernel
theorem dX8_enterDay_83 : decode cX8_enterDay 83 = .ok (.aload_n 0, 1) := by decide +kernel
theorem dX8_enterDay_84 : decode cX8_enterDay 84 = .ok (.getfield 40, 3) := by decide +kernel
theorem dX8_enterDay_87 : decode cX8_enterDay 87 = .ok (.getfield 350, 3) := by decide +kernel
theorem dX8_enterDay_90 : decode cX8_enterDay 90 = .ok (.iload_n 3, 1) := by decide +kernel
theorem dX8_enterDay_91 : decode cX8_enterDay 91 = .ok (.iaload, 1) := by decide +kernel
theorem dX8_enterDay_92 : decode cX8_enterDay 92 = .ok (.invokevirtual 371, 3) := by decide +kernel
theorem dX8_enterDay_95 : decode cX8_enterDay 95 = .ok (.iinc 1 1, 3) := by decide +kernel
theorem dX8_enterDay_98 : decode cX8_enterDay 98 = .ok (.iinc 2 1, 3) := by decide +kernel
theorem dX8_enterDay_101 : decode cX8_enterDay 101 = .ok (.goto (-89), 3) := by decide +kernel
theorem dX8_enterDay_104 : decode cX8_enterDay 104 = .ok (.iconst 0, 1) := by decide +kernel
theorem dX8_enterDay_105 : decode cX8_enterDay 105 = .ok (.istore_n 2, 1) := by decide +kernel
theorem dX8_enterDay_106 : decode cX8_enterDay 106 = .ok (.iload_n 2, 1) := by decide +kernel
theorem dX8_enterDay_107 : decode cX8_enterDay 107 = .ok (.aload_n 0, 1) := by decide +kernel
theorem dX8_enterDay_108 : decode cX8_enterDay 108 = .ok (.getfield 19, 3) := by decide +kernel
theorem dX8_enterDay_111 : decode cX8_enterDay 111 = .ok (.getfield 112, 3) := by decide +kernel
theorem dX8_enterDay_114 : decode cX8_enterDay 114 = .ok (.if_icmp .ge 44, 3) := by decide +kernel
theorem dX8_enterDay_117 : decode cX8_enterDay 117 = .ok (.aload_n 0, 1) := by decide +kernel
theorem dX8_enterDay_118 : decode cX8_enterDay 118 = .ok (.getfield 19, 3) := by decide +kernel
theorem dX8_enterDay_121 : decode cX8_enterDay 121 = .ok (.getfield 115, 3) := by decide +kernel
theorem dX8_enterDay_124 : decode cX8_enterDay 124 = .ok (.iload_n 2, 1) := by decide +kernel
theorem dX8_enterDay_125 : decode cX8_enterDay 125 = .ok (.iaload, 1) := by decide +kernel
theorem dX8_enterDay_126 : decode cX8_enterDay 126 = .ok (.istore_n 3, 1) := by decide +kernel
theorem dX8_enterDay_127 : decode cX8_enterDay 127 = .ok (.aload_n 0, 1) := by decide +kernel
theorem dX8_enterDay_128 : decode cX8_enterDay 128 = .ok (.getfield 19, 3) := by decide +kernel
theorem dX8_enterDay_131 : decode cX8_enterDay 131 = .ok (.getfield 175, 3) := by decide +kernel
theorem dX8_enterDay_134 : decode cX8_enterDay 134 = .ok (.iload_n 3, 1) := by decide +kernel
theorem dX8_enterDay_135 : decode cX8_enterDay 135 = .ok (.baload, 1) := by decide +kernel
theorem dX8_enterDay_136 : decode cX8_enterDay 136 = .ok (.ifCond .eq 16, 3) := by decide +kernel
theorem dX8_enterDay_139 : decode cX8_enterDay 139 = .ok (.aload_n 0, 1) := by decide +kernel
theorem dX8_enterDay_140 : decode cX8_enterDay 140 = .ok (.getfield 19, 3) := by decide +kernel
theorem dX8_enterDay_143 : decode cX8_enterDay 143 = .ok (.getfield 216, 3) := by decide +kernel
theorem dX8_enterDay_146 : decode cX8_enterDay 146 = .ok (.iload_n 3, 1) := by decide +kernel
theorem dX8_enterDay_147 : decode cX8_enterDay 147 = .ok (.dup2, 1) := by decide +kernel
theorem dX8_enterDay_148 : decode cX8_enterDay 148 = .ok (.iaload, 1) := by decide +kernel
theorem dX8_enterDay_149 : decode cX8_enterDay 149 = .ok (.iconst 1, 1) := by decide +kernel
theorem dX8_enterDay_150 : decode cX8_enterDay 150 = .ok (.iadd, 1) := by decide +kernel
theorem dX8_enterDay_151 : decode cX8_enterDay 151 = .ok (.iastore, 1) := by decide +kernel
theorem dX8_enterDay_152 : decode cX8_enterDay 152 = .ok (.iinc 2 1, 3) := by decide +kernel
theorem dX8_enterDay_155 : decode cX8_enterDay 155 = .ok (.goto (-49), 3) := by decide +kernel
theorem dX8_enterDay_158 : decode cX8_enterDay 158 = .ok (.aload_n 0, 1) := by decide +kernel
theorem dX8_enterDay_159 : decode cX8_enterDay 159 = .ok (.getfield 33, 3) := by decide +kernel
theorem dX8_enterDay_162 : decode cX8_enterDay 162 = .ok (.dup, 1) := by decide +kernel
theorem dX8_enterDay_163 : decode cX8_enterDay 163 = .ok (.getfield 184, 3) := by decide +kernel
theorem dX8_enterDay_166 : decode cX8_enterDay 166 = .ok (.iconst 1, 1) := by decide +kernel
theorem dX8_enterDay_167 : decode cX8_enterDay 167 = .ok (.iadd, 1) := by decide +kernel
theorem dX8_enterDay_168 : decode cX8_enterDay 168 = .ok (.putfield 184, 3) := by decide +kernel
theorem dX8_enterDay_171 : decode cX8_enterDay 171 = .ok (.iload_n 1, 1) := by decide +kernel
theorem dX8_enterDay_172 : decode cX8_enterDay 172 = .ok (.ireturn, 1) := by decide +kernel
theorem dX8_moveByCustom_0 : decode cX8_moveByCustom 0 = .ok (.aload_n 0, 1) := by decide +kernel
theorem dX8_moveByCustom_1 : decode cX8_moveByCustom 1 = .ok (.getfield 47, 3) := by decide +kernel
theorem dX8_moveByCustom_4 : decode cX8_moveByCustom 4 = .ok (.aload_n 0, 1) := by decide +kernel
theorem dX8_moveByCustom_5 : decode cX8_moveByCustom 5 = .ok (.getfield 19, 3) := by decide +kernel
theorem dX8_moveByCustom_8 : decode cX8_moveByCustom 8 = .ok (.getfield 125, 3) := by decide +kernel
theorem dX8_moveByCustom_11 : decode cX8_moveByCustom 11 = .ok (.iload_n 1, 1) := by decide +kernel
theorem dX8_moveByCustom_12 : decode cX8_moveByCustom 12 = .ok (.iaload, 1) := by decide +kernel
theorem dX8_moveByCustom_13 : decode cX8_moveByCustom 13 = .ok (.aload_n 0, 1) := by decide +kernel
theorem dX8_moveByCustom_14 : decode cX8_moveByCustom 14 = .ok (.getfield 19, 3) := by decide +kernel
theorem dX8_moveByCustom_17 : decode cX8_moveByCustom 17 = .ok (.getfield 216, 3) := by decide +kernel
theorem dX8_moveByCustom_20 : decode cX8_moveByCustom 20 = .ok (.iload_n 1, 1) := by decide +kernel
theorem dX8_moveByCustom_21 : decode cX8_moveByCustom 21 = .ok (.iaload, 1) := by decide +kernel
theorem dX8_moveByCustom_22 : decode cX8_moveByCustom 22 = .ok (.isub, 1) := by decide +kernel
theorem dX8_moveByCustom_23 : decode cX8_moveByCustom 23 = .ok (.aload_n 0, 1) := by decide +kernel
theorem dX8_moveByCustom_24 : decode cX8_moveByCustom 24 = .ok (.getfield 54, 3) := by decide +kernel
theorem dX8_moveByCustom_27 : decode cX8_moveByCustom 27 = .ok (.getfield 276, 3) := by decide +kernel
theorem dX8_moveByCustom_30 : decode cX8_moveByCustom 30 = .ok (.invokevirtual 279, 3) := by decide +kernel
theorem dX8_moveByCustom_33 : decode cX8_moveByCustom 33 = .ok (.istore_n 2, 1) := by decide +kernel
theorem dX8_moveByCustom_34 : decode cX8_moveByCustom 34 = .ok (.aload_n 0, 1) := by decide +kernel
theorem dX8_moveByCustom_35 : decode cX8_moveByCustom 35 = .ok (.getfield 47, 3) := by decide +kernel
theorem dX8_moveByCustom_38 : decode cX8_moveByCustom 38 = .ok (.iload_n 2, 1) := by decide +kernel
theorem dX8_moveByCustom_39 : decode cX8_moveByCustom 39 = .ok (.aload_n 0, 1) := by decide +kernel
theorem dX8_moveByCustom_40 : decode cX8_moveByCustom 40 = .ok (.getfield 19, 3) := by decide +kernel
theorem dX8_moveByCustom_43 : decode cX8_moveByCustom 43 = .ok (.getfield 282, 3) := by decide +kernel
theorem dX8_moveByCustom_46 : decode cX8_moveByCustom 46 = .ok (.iload_n 1, 1) := by decide +kernel
theorem dX8_moveByCustom_47 : decode cX8_moveByCustom 47 = .ok (.iaload, 1) := by decide +kernel
theorem dX8_moveByCustom_48 : decode cX8_moveByCustom 48 = .ok (.invokevirtual 285, 3) := by decide +kernel
theorem dX8_moveByCustom_51 : decode cX8_moveByCustom 51 = .ok (.istore_n 3, 1) := by decide +kernel
theorem dX8_moveByCustom_52 : decode cX8_moveByCustom 52 = .ok (.aload_n 0, 1) := by decide +kernel
theorem dX8_moveByCustom_53 : decode cX8_moveByCustom 53 = .ok (.getfield 54, 3) := by decide +kernel
theorem dX8_moveByCustom_56 : decode cX8_moveByCustom 56 = .ok (.getfield 267, 3) := by decide +kernel
theorem dX8_moveByCustom_59 : decode cX8_moveByCustom 59 = .ok (.iload_n 1, 1) := by decide +kernel
theorem dX8_moveByCustom_60 : decode cX8_moveByCustom 60 = .ok (.iload_n 2, 1) := by decide +kernel
theorem dX8_moveByCustom_61 : decode cX8_moveByCustom 61 = .ok (.iastore, 1) := by decide +kernel
theorem dX8_moveByCustom_62 : decode cX8_moveByCustom 62 = .ok (.aload_n 0, 1) := by decide +kernel
theorem dX8_moveByCustom_63 : decode cX8_moveByCustom 63 = .ok (.getfield 54, 3) := by decide +kernel
theorem dX8_moveByCustom_66 : decode cX8_moveByCustom 66 = .ok (.iload_n 1, 1) := by decide +kernel
theorem dX8_moveByCustom_67 : decode cX8_moveByCustom 67 = .ok (.iload_n 3, 1) := by decide +kernel
theorem dX8_moveByCustom_68 : decode cX8_moveByCustom 68 = .ok (.invokevirtual 288, 3) := by decide +kernel
theorem dX8_moveByCustom_71 : decode cX8_moveByCustom 71 = .ok (.iload_n 3, 1) := by decide +kernel
theorem dX8_moveByCustom_72 : decode cX8_moveByCustom 72 = .ok (.aload_n 0, 1) := by decide +kernel
theorem dX8_moveByCustom_73 : decode cX8_moveByCustom 73 = .ok (.getfield 47, 3) := by decide +kernel
theorem dX8_moveByCustom_76 : decode cX8_moveByCustom 76 = .ok (.iload_n 2, 1) := by decide +kernel
theorem dX8_moveByCustom_77 : decode cX8_moveByCustom 77 = .ok (.iconst 0, 1) := by decide +kernel
theorem dX8_moveByCustom_78 : decode cX8_moveByCustom 78 = .ok (.invokevirtual 285, 3) := by decide +kernel
theorem dX8_moveByCustom_81 : decode cX8_moveByCustom 81 = .ok (.isub, 1) := by decide +kernel
theorem dX8_moveByCustom_82 : decode cX8_moveByCustom 82 = .ok (.istore 4, 2) := by decide +kernel
theorem dX8_moveByCustom_84 : decode cX8_moveByCustom 84 = .ok (.aload_n 0, 1) := by decide +kernel
theorem dX8_moveByCustom_85 : decode cX8_moveByCustom 85 = .ok (.getfield 19, 3) := by decide +kernel
theorem dX8_moveByCustom_88 : decode cX8_moveByCustom 88 = .ok (.getfield 282, 3) := by decide +kernel
theorem dX8_moveByCustom_91 : decode cX8_moveByCustom 91 = .ok (.iload_n 1, 1) := by decide +kernel
theorem dX8_moveByCustom_92 : decode cX8_moveByCustom 92 = .ok (.iaload, 1) := by decide +kernel
theorem dX8_moveByCustom_93 : decode cX8_moveByCustom 93 = .ok (.iconst 1, 1) := by decide +kernel
theorem dX8_moveByCustom_94 : decode cX8_moveByCustom 94 = .ok (.if_icmp .ne 24, 3) := by decide +kernel
theorem dX8_moveByCustom_97 : decode cX8_moveByCustom 97 = .ok (.iload 4, 2) := by decide +kernel
theorem dX8_moveByCustom_99 : decode cX8_moveByCustom 99 = .ok (.ifCond .le 19, 3) := by decide +kernel
theorem dX8_moveByCustom_102 : decode cX8_moveByCustom 102 = .ok (.aload_n 0, 1) := by decide +kernel
theorem dX8_moveByCustom_103 : decode cX8_moveByCustom 103 = .ok (.getfield 19, 3) := by decide +kernel
theorem dX8_moveByCustom_106 : decode cX8_moveByCustom 106 = .ok (.getfield 119, 3) := by decide +kernel
theorem dX8_moveByCustom_109 : decode cX8_moveByCustom 109 = .ok (.iload_n 1, 1) := by decide +kernel
theorem dX8_moveByCustom_110 : decode cX8_moveByCustom 110 = .ok (.dup2, 1) := by decide +kernel
theorem dX8_moveByCustom_111 : decode cX8_moveByCustom 111 = .ok (.iaload, 1) := by decide +kernel
theorem dX8_moveByCustom_112 : decode cX8_moveByCustom 112 = .ok (.iconst 1, 1) := by decide +kernel
theorem dX8_moveByCustom_113 : decode cX8_moveByCustom 113 = .ok (.iadd, 1) := by decide +kernel
theorem dX8_moveByCustom_114 : decode cX8_moveByCustom 114 = .ok (.iastore, 1) := by decide +kernel
theorem dX8_moveByCustom_115 : decode cX8_moveByCustom 115 = .ok (.goto 30, 3) := by decide +kernel
theorem dX8_moveByCustom_118 : decode cX8_moveByCustom 118 = .ok (.aload_n 0, 1) := by decide +kernel
theorem dX8_moveByCustom_119 : decode cX8_moveByCustom 119 = .ok (.getfield 19, 3) := by decide +kernel
theorem dX8_moveByCustom_122 : decode cX8_moveByCustom 122 = .ok (.getfield 282, 3) := by decide +kernel
theorem dX8_moveByCustom_125 : decode cX8_moveByCustom 125 = .ok (.iload_n 1, 1) := by decide +kernel
theorem dX8_moveByCustom_126 : decode cX8_moveByCustom 126 = .ok (.iaload, 1) := by decide +kernel
theorem dX8_moveByCustom_127 : decode cX8_moveByCustom 127 = .ok (.iconst 2, 1) := by decide +kernel
theorem dX8_moveByCustom_128 : decode cX8_moveByCustom 128 = .ok (.if_icmp .ne 17, 3) := by decide +kernel
theorem dX8_moveByCustom_131 : decode cX8_moveByCustom 131 = .ok (.aload_n 0, 1) := by decide +kernel
theorem dX8_moveByCustom_132 : decode cX8_moveByCustom 132 = .ok (.getfield 19, 3) := by decide +kernel
theorem dX8_moveByCustom_135 : decode cX8_moveByCustom 135 = .ok (.getfield 119, 3) := by decide +kernel
theorem dX8_moveByCustom_138 : decode cX8_moveByCustom 138 = .ok (.iload_n 1, 1) := by decide +kernel
theorem dX8_moveByCustom_139 : decode cX8_moveByCustom 139 = .ok (.dup2, 1) := by decide +kernel
theorem dX8_moveByCustom_140 : decode cX8_moveByCustom 140 = .ok (.iaload, 1) := by decide +kernel
theorem dX8_moveByCustom_141 : decode cX8_moveByCustom 141 = .ok (.iload 4, 2) := by decide +kernel
theorem dX8_moveByCustom_143 : decode cX8_moveByCustom 143 = .ok (.iadd, 1) := by decide +kernel
theorem dX8_moveByCustom_144 : decode cX8_moveByCustom 144 = .ok (.iastore, 1) := by decide +kernel
theorem dX8_moveByCustom_145 : decode cX8_moveByCustom 145 = .ok (.return_, 1) := by decide +kernel
theorem dX8_scoreWithout_0 : decode cX8_scoreWithout 0 = .ok (.aload_n 0, 1) := by decide +kernel
theorem dX8_scoreWithout_1 : decode cX8_scoreWithout 1 = .ok (.getfield 19, 3) := by decide +kernel
theorem dX8_scoreWithout_4 : decode cX8_scoreWithout 4 = .ok (.getfield 125, 3) := by decide +kernel
theorem dX8_scoreWithout_7 : decode cX8_scoreWithout 7 = .ok (.iload_n 1, 1) := by decide +kernel
theorem dX8_scoreWithout_8 : decode cX8_scoreWithout 8 = .ok (.iaload, 1) := by decide +kernel
theorem dX8_scoreWithout_9 : decode cX8_scoreWithout 9 = .ok (.aload_n 0, 1) := by decide +kernel
theorem dX8_scoreWithout_10 : decode cX8_scoreWithout 10 = .ok (.getfield 19, 3) := by decide +kernel
theorem dX8_scoreWithout_13 : decode cX8_scoreWithout 13 = .ok (.getfield 216, 3) := by decide +kernel
theorem dX8_scoreWithout_16 : decode cX8_scoreWithout 16 = .ok (.iload_n 1, 1) := by decide +kernel
theorem dX8_scoreWithout_17 : decode cX8_scoreWithout 17 = .ok (.iaload, 1) := by decide +kernel
theorem dX8_scoreWithout_18 : decode cX8_scoreWithout 18 = .ok (.isub, 1) := by decide +kernel
theorem dX8_scoreWithout_19 : decode cX8_scoreWithout 19 = .ok (.istore_n 3, 1) := by decide +kernel
theorem dX8_scoreWithout_20 : decode cX8_scoreWithout 20 = .ok (.iload_n 1, 1) := by decide +kernel
theorem dX8_scoreWithout_21 : decode cX8_scoreWithout 21 = .ok (.aload_n 0, 1) := by decide +kernel
theorem dX8_scoreWithout_22 : decode cX8_scoreWithout 22 = .ok (.getfield 33, 3) := by decide +kernel
theorem dX8_scoreWithout_25 : decode cX8_scoreWithout 25 = .ok (.getfield 207, 3) := by decide +kernel
theorem dX8_scoreWithout_28 : decode cX8_scoreWithout 28 = .ok (.iload_n 2, 1) := by decide +kernel
theorem dX8_scoreWithout_29 : decode cX8_scoreWithout 29 = .ok (.iaload, 1) := by decide +kernel
theorem dX8_scoreWithout_30 : decode cX8_scoreWithout 30 = .ok (.if_icmp .ne 7, 3) := by decide +kernel
theorem dX8_scoreWithout_33 : decode cX8_scoreWithout 33 = .ok (.iload_n 3, 1) := by decide +kernel
theorem dX8_scoreWithout_34 : decode cX8_scoreWithout 34 = .ok (.iconst 1, 1) := by decide +kernel
theorem dX8_scoreWithout_35 : decode cX8_scoreWithout 35 = .ok (.isub, 1) := by decide +kernel
theorem dX8_scoreWithout_36 : decode cX8_scoreWithout 36 = .ok (.ireturn, 1) := by decide +kernel
theorem dX8_scoreWithout_37 : decode cX8_scoreWithout 37 = .ok (.iload_n 1, 1) := by decide +kernel
theorem dX8_scoreWithout_38 : decode cX8_scoreWithout 38 = .ok (.aload_n 0, 1) := by decide +kernel
theorem dX8_scoreWithout_39 : decode cX8_scoreWithout 39 = .ok (.getfield 33, 3) := by decide +kernel
theorem dX8_scoreWithout_42 : decode cX8_scoreWithout 42 = .ok (.iload_n 2, 1) := by decide +kernel
theorem dX8_scoreWithout_43 : decode cX8_scoreWithout 43 = .ok (.invokevirtual 219, 3) := by decide +kernel
theorem dX8_scoreWithout_46 : decode cX8_scoreWithout 46 = .ok (.if_icmp .ne 9, 3) := by decide +kernel
theorem dX8_scoreWithout_49 : decode cX8_scoreWithout 49 = .ok (.iload_n 3, 1) := by decide +kernel
theorem dX8_scoreWithout_50 : decode cX8_scoreWithout 50 = .ok (.iconst 1, 1) := by decide +kernel
theorem dX8_scoreWithout_51 : decode cX8_scoreWithout 51 = .ok (.iadd, 1) := by decide +kernel
theorem dX8_scoreWithout_52 : decode cX8_scoreWithout 52 = .ok (.goto 4, 3) := by decide +kernel
theorem dX8_scoreWithout_55 : decode cX8_scoreWithout 55 = .ok (.iload_n 3, 1) := by decide +kernel
theorem dX8_scoreWithout_56 : decode cX8_scoreWithout 56 = .ok (.ireturn, 1) := by decide +kernel
theorem dX8_crownIfAlone_0 : decode cX8_crownIfAlone 0 = .ok (.aload_n 0, 1) := by decide +kernel
theorem dX8_crownIfAlone_1 : decode cX8_crownIfAlone 1 = .ok (.getfield 61, 3) := by decide +kernel
theorem dX8_crownIfAlone_4 : decode cX8_crownIfAlone 4 = .ok (.getfield 306, 3) := by decide +kernel
theorem dX8_crownIfAlone_7 : decode cX8_crownIfAlone 7 = .ok (.iconst 1, 1) := by decide +kernel
theorem dX8_crownIfAlone_8 : decode cX8_crownIfAlone 8 = .ok (.if_icmp .ne 38, 3) := by decide +kernel
theorem dX8_crownIfAlone_11 : decode cX8_crownIfAlone 11 = .ok (.aload_n 0, 1) := by decide +kernel
theorem dX8_crownIfAlone_12 : decode cX8_crownIfAlone 12 = .ok (.getfield 61, 3) := by decide +kernel
theorem dX8_crownIfAlone_15 : decode cX8_crownIfAlone 15 = .ok (.aload_n 0, 1) := by decide +kernel
theorem dX8_crownIfAlone_16 : decode cX8_crownIfAlone 16 = .ok (.getfield 61, 3) := by decide +kernel
theorem dX8_crownIfAlone_19 : decode cX8_crownIfAlone 19 = .ok (.getfield 309, 3) := by decide +kernel
theorem dX8_crownIfAlone_22 : decode cX8_crownIfAlone 22 = .ok (.iconst 0, 1) := by decide +kernel
theorem dX8_crownIfAlone_23 : decode cX8_crownIfAlone 23 = .ok (.iaload, 1) := by decide +kernel
theorem dX8_crownIfAlone_24 : decode cX8_crownIfAlone 24 = .ok (.putfield 316, 3) := by decide +kernel
theorem dX8_crownIfAlone_27 : decode cX8_crownIfAlone 27 = .ok (.aload_n 0, 1) := by decide +kernel
theorem dX8_crownIfAlone_28 : decode cX8_crownIfAlone 28 = .ok (.getfield 19, 3) := by decide +kernel
theorem dX8_crownIfAlone_31 : decode cX8_crownIfAlone 31 = .ok (.getfield 374, 3) := by decide +kernel
theorem dX8_crownIfAlone_34 : decode cX8_crownIfAlone 34 = .ok (.aload_n 0, 1) := by decide +kernel
theorem dX8_crownIfAlone_35 : decode cX8_crownIfAlone 35 = .ok (.getfield 61, 3) := by decide +kernel
theorem dX8_crownIfAlone_38 : decode cX8_crownIfAlone 38 = .ok (.getfield 316, 3) := by decide +kernel
theorem dX8_crownIfAlone_41 : decode cX8_crownIfAlone 41 = .ok (.dup2, 1) := by decide +kernel
theorem dX8_crownIfAlone_42 : decode cX8_crownIfAlone 42 = .ok (.iaload, 1) := by decide +kernel
theorem dX8_crownIfAlone_43 : decode cX8_crownIfAlone 43 = .ok (.iconst 1, 1) := by decide +kernel
theorem dX8_crownIfAlone_44 : decode cX8_crownIfAlone 44 = .ok (.iadd, 1) := by decide +kernel
theorem dX8_crownIfAlone_45 : decode cX8_crownIfAlone 45 = .ok (.iastore, 1) := by decide +kernel
theorem dX8_crownIfAlone_46 : decode cX8_crownIfAlone 46 = .ok (.return_, 1) := by decide +kernel
theorem dX8_tally_0 : decode cX8_tally 0 = .ok (.iload_n 1, 1) := by decide +kernel
theorem dX8_tally_1 : decode cX8_tally 1 = .ok (.tableswitch 125 0 7 #[47, 55, 63, 71, 93, 101, 109, 117], 47) := by decide +kernel
theorem dX8_tally_48 : decode cX8_tally 48 = .ok (.aload_n 0, 1) := by decide +kernel
theorem dX8_tally_49 : decode cX8_tally 49 = .ok (.getfield 19, 3) := by decide +kernel
theorem dX8_tally_52 : decode cX8_tally 52 = .ok (.getfield 72, 3) := by decide +kernel
theorem dX8_tally_55 : decode cX8_tally 55 = .ok (.ireturn, 1) := by decide +kernel
theorem dX8_tally_56 : decode cX8_tally 56 = .ok (.aload_n 0, 1) := by decide +kernel
theorem dX8_tally_57 : decode cX8_tally 57 = .ok (.getfield 19, 3) := by decide +kernel
theorem dX8_tally_60 : decode cX8_tally 60 = .ok (.getfield 112, 3) := by decide +kernel
theorem dX8_tally_63 : decode cX8_tally 63 = .ok (.ireturn, 1) := by decide +kernel
theorem dX8_tally_64 : decode cX8_tally 64 = .ok (.aload_n 0, 1) := by decide +kernel
theorem dX8_tally_65 : decode cX8_tally 65 = .ok (.getfield 33, 3) := by decide +kernel
theorem dX8_tally_68 : decode cX8_tally 68 = .ok (.getfield 184, 3) := by decide +kernel
theorem dX8_tally_71 : decode cX8_tally 71 = .ok (.ireturn, 1) := by decide +kernel
theorem dX8_tally_72 : decode cX8_tally 72 = .ok (.aload_n 0, 1) := by decide +kernel
theorem dX8_tally_73 : decode cX8_tally 73 = .ok (.getfield 33, 3) := by decide +kernel
theorem dX8_tally_76 : decode cX8_tally 76 = .ok (.getfield 76, 3) := by decide +kernel
theorem dX8_tally_79 : decode cX8_tally 79 = .ok (.ifCond .eq 13, 3) := by decide +kernel
theorem dX8_tally_82 : decode cX8_tally 82 = .ok (.aload_n 0, 1) := by decide +kernel
theorem dX8_tally_83 : decode cX8_tally 83 = .ok (.getfield 33, 3) := by decide +kernel
theorem dX8_tally_86 : decode cX8_tally 86 = .ok (.getfield 187, 3) := by decide +kernel
theorem dX8_tally_89 : decode cX8_tally 89 = .ok (.goto 4, 3) := by decide +kernel
theorem dX8_tally_92 : decode cX8_tally 92 = .ok (.iconst 0, 1) := by decide +kernel
theorem dX8_tally_93 : decode cX8_tally 93 = .ok (.ireturn, 1) := by decide +kernel
theorem dX8_tally_94 : decode cX8_tally 94 = .ok (.aload_n 0, 1) := by decide +kernel
theorem dX8_tally_95 : decode cX8_tally 95 = .ok (.getfield 33, 3) := by decide +kernel
theorem dX8_tally_98 : decode cX8_tally 98 = .ok (.getfield 336, 3) := by decide +kernel
theorem dX8_tally_101 : decode cX8_tally 101 = .ok (.ireturn, 1) := by decide +kernel
theorem dX8_tally_102 : decode cX8_tally 102 = .ok (.aload_n 0, 1) := by decide +kernel
theorem dX8_tally_103 : decode cX8_tally 103 = .ok (.getfield 33, 3) := by decide +kernel
theorem dX8_tally_106 : decode cX8_tally 106 = .ok (.getfield 181, 3) := by decide +kernel
theorem dX8_tally_109 : decode cX8_tally 109 = .ok (.ireturn, 1) := by decide +kernel
theorem dX8_tally_110 : decode cX8_tally 110 = .ok (.aload_n 0, 1) := by decide +kernel
theorem dX8_tally_111 : decode cX8_tally 111 = .ok (.getfield 47, 3) := by decide +kernel
theorem dX8_tally_114 : decode cX8_tally 114 = .ok (.getfield 226, 3) := by decide +kernel
theorem dX8_tally_117 : decode cX8_tally 117 = .ok (.ireturn, 1) := by decide +kernel
theorem dX8_tally_118 : decode cX8_tally 118 = .ok (.aload_n 0, 1) := by decide +kernel
theorem dX8_tally_119 : decode cX8_tally 119 = .ok (.getfield 54, 3) := by decide +kernel
theorem dX8_tally_122 : decode cX8_tally 122 = .ok (.getfield 377, 3) := by decide +kernel
theorem dX8_tally_125 : decode cX8_tally 125 = .ok (.ireturn, 1) := by decide +kernel
theorem dX8_tally_126 : decode cX8_tally 126 = .ok (.iconst (-1), 1) := by decide +kernel
theorem dX8_tally_127 : decode cX8_tally 127 = .ok (.ireturn, 1) := by decide +kernel
theorem dX8_withWrestler_0 : decode cX8_withWrestler 0 = .ok (.aload_n 0, 1) := by decide +kernel
theorem dX8_withWrestler_1 : decode cX8_withWrestler 1 = .ok (.getfield 19, 3) := by decide +kernel
theorem dX8_withWrestler_4 : decode cX8_withWrestler 4 = .ok (.getfield 90, 3) := by decide +kernel
theorem dX8_withWrestler_7 : decode cX8_withWrestler 7 = .ok (.iload_n 3, 1) := by decide +kernel
theorem dX8_withWrestler_8 : decode cX8_withWrestler 8 = .ok (.baload, 1) := by decide +kernel
theorem dX8_withWrestler_9 : decode cX8_withWrestler 9 = .ok (.ifCond .eq 11, 3) := by decide +kernel
theorem dX8_withWrestler_12 : decode cX8_withWrestler 12 = .ok (.ldc2_w 334, 3) := by decide +kernel
theorem dX8_withWrestler_15 : decode cX8_withWrestler 15 = .ok (.lload_n 1, 1) := by decide +kernel
theorem dX8_withWrestler_16 : decode cX8_withWrestler 16 = .ok (.lmul, 1) := by decide +kernel
theorem dX8_withWrestler_17 : decode cX8_withWrestler 17 = .ok (.lconst 1, 1) := by decide +kernel
theorem dX8_withWrestler_18 : decode cX8_withWrestler 18 = .ok (.lsub, 1) := by decide +kernel
theorem dX8_withWrestler_19 : decode cX8_withWrestler 19 = .ok (.lreturn, 1) := by decide +kernel
theorem dX8_withWrestler_20 : decode cX8_withWrestler 20 = .ok (.lload_n 1, 1) := by decide +kernel
theorem dX8_withWrestler_21 : decode cX8_withWrestler 21 = .ok (.lstore 4, 2) := by decide +kernel
theorem dX8_withWrestler_23 : decode cX8_withWrestler 23 = .ok (.iconst 0, 1) := by decide +kernel
theorem dX8_withWrestler_24 : decode cX8_withWrestler 24 = .ok (.istore 6, 2) := by decide +kernel
theorem dX8_withWrestler_26 : decode cX8_withWrestler 26 = .ok (.iload 6, 2) := by decide +kernel
theorem dX8_withWrestler_28 : decode cX8_withWrestler 28 = .ok (.bipush 7, 2) := by decide +kernel
theorem dX8_withWrestler_30 : decode cX8_withWrestler 30 = .ok (.if_icmp .ge 29, 3) := by decide +kernel
theorem dX8_withWrestler_33 : decode cX8_withWrestler 33 = .ok (.ldc2_w 334, 3) := by decide +kernel
theorem dX8_withWrestler_36 : decode cX8_withWrestler 36 = .ok (.lload 4, 2) := by decide +kernel
theorem dX8_withWrestler_38 : decode cX8_withWrestler 38 = .ok (.lmul, 1) := by decide +kernel
theorem dX8_withWrestler_39 : decode cX8_withWrestler 39 = .ok (.aload_n 0, 1) := by decide +kernel
theorem dX8_withWrestler_40 : decode cX8_withWrestler 40 = .ok (.getfield 19, 3) := by decide +kernel
theorem dX8_withWrestler_43 : decode cX8_withWrestler 43 = .ok (.iload_n 3, 1) := by decide +kernel
theorem dX8_withWrestler_44 : decode cX8_withWrestler 44 = .ok (.iload 6, 2) := by decide +kernel
theorem dX8_withWrestler_46 : decode cX8_withWrestler 46 = .ok (.invokevirtual 104, 3) := by decide +kernel
theorem dX8_withWrestler_49 : decode cX8_withWrestler 49 = .ok (.i2l, 1) := by decide +kernel
theorem dX8_withWrestler_50 : decode cX8_withWrestler 50 = .ok (.ladd, 1) := by decide +kernel
theorem dX8_withWrestler_51 : decode cX8_withWrestler 51 = .ok (.lstore 4, 2) := by decide +kernel
theorem dX8_withWrestler_53 : decode cX8_withWrestler 53 = .ok (.iinc 6 1, 3) := by decide +kernel
theorem dX8_withWrestler_56 : decode cX8_withWrestler 56 = .ok (.goto (-30), 3) := by decide +kernel
theorem dX8_withWrestler_59 : decode cX8_withWrestler 59 = .ok (.lload 4, 2) := by decide +kernel
theorem dX8_withWrestler_61 : decode cX8_withWrestler 61 = .ok (.lreturn, 1) := by decide +kernel
theorem dX8_withSheet_0 : decode cX8_withSheet 0 = .ok (.ldc2_w 334, 3) := by decide +kernel
theorem dX8_withSheet_3 : decode cX8_withSheet 3 = .ok (.lload_n 1, 1) := by decide +kernel
theorem dX8_withSheet_4 : decode cX8_withSheet 4 = .ok (.lmul, 1) := by decide +kernel
theorem dX8_withSheet_5 : decode cX8_withSheet 5 = .ok (.aload_n 0, 1) := by decide +kernel
theorem dX8_withSheet_6 : decode cX8_withSheet 6 = .ok (.getfield 26, 3) := by decide +kernel
theorem dX8_withSheet_9 : decode cX8_withSheet 9 = .ok (.getfield 138, 3) := by decide +kernel
theorem dX8_withSheet_12 : decode cX8_withSheet 12 = .ok (.iload_n 3, 1) := by decide +kernel
theorem dX8_withSheet_13 : decode cX8_withSheet 13 = .ok (.iaload, 1) := by decide +kernel
theorem dX8_withSheet_14 : decode cX8_withSheet 14 = .ok (.i2l, 1) := by decide +kernel
theorem dX8_withSheet_15 : decode cX8_withSheet 15 = .ok (.ladd, 1) := by decide +kernel
theorem dX8_withSheet_16 : decode cX8_withSheet 16 = .ok (.lstore 4, 2) := by decide +kernel
theorem dX8_withSheet_18 : decode cX8_withSheet 18 = .ok (.iconst 0, 1) := by decide +kernel
theorem dX8_withSheet_19 : decode cX8_withSheet 19 = .ok (.istore 6, 2) := by decide +kernel
theorem dX8_withSheet_21 : decode cX8_withSheet 21 = .ok (.iload 6, 2) := by decide +kernel
theorem dX8_withSheet_23 : decode cX8_withSheet 23 = .ok (.aload_n 0, 1) := by decide +kernel
theorem dX8_withSheet_24 : decode cX8_withSheet 24 = .ok (.getfield 26, 3) := by decide +kernel
theorem dX8_withSheet_27 : decode cX8_withSheet 27 = .ok (.getfield 138, 3) := by decide +kernel
theorem dX8_withSheet_30 : decode cX8_withSheet 30 = .ok (.iload_n 3, 1) := by decide +kernel
theorem dX8_withSheet_31 : decode cX8_withSheet 31 = .ok (.iaload, 1) := by decide +kernel
theorem dX8_withSheet_32 : decode cX8_withSheet 32 = .ok (.if_icmp .ge 31, 3) := by decide +kernel
theorem dX8_withSheet_35 : decode cX8_withSheet 35 = .ok (.ldc2_w 334, 3) := by decide +kernel
theorem dX8_withSheet_38 : decode cX8_withSheet 38 = .ok (.lload 4, 2) := by decide +kernel
theorem dX8_withSheet_40 : decode cX8_withSheet 40 = .ok (.lmul, 1) := by decide +kernel
theorem dX8_withSheet_41 : decode cX8_withSheet 41 = .ok (.aload_n 0, 1) := by decide +kernel
theorem dX8_withSheet_42 : decode cX8_withSheet 42 = .ok (.getfield 26, 3) := by decide +kernel
theorem dX8_withSheet_45 : decode cX8_withSheet 45 = .ok (.getfield 149, 3) := by decide +kernel
theorem dX8_withSheet_48 : decode cX8_withSheet 48 = .ok (.iload_n 3, 1) := by decide +kernel
theorem dX8_withSheet_49 : decode cX8_withSheet 49 = .ok (.aaload, 1) := by decide +kernel
theorem dX8_withSheet_50 : decode cX8_withSheet 50 = .ok (.iload 6, 2) := by decide +kernel
theorem dX8_withSheet_52 : decode cX8_withSheet 52 = .ok (.baload, 1) := by decide +kernel
theorem dX8_withSheet_53 : decode cX8_withSheet 53 = .ok (.i2l, 1) := by decide +kernel
theorem dX8_withSheet_54 : decode cX8_withSheet 54 = .ok (.ladd, 1) := by decide +kernel
theorem dX8_withSheet_55 : decode cX8_withSheet 55 = .ok (.lstore 4, 2) := by decide +kernel
theorem dX8_withSheet_57 : decode cX8_withSheet 57 = .ok (.iinc 6 1, 3) := by decide +kernel
theorem dX8_withSheet_60 : decode cX8_withSheet 60 = .ok (.goto (-39), 3) := by decide +kernel
theorem dX8_withSheet_63 : decode cX8_withSheet 63 = .ok (.lload 4, 2) := by decide +kernel
theorem dX8_withSheet_65 : decode cX8_withSheet 65 = .ok (.lreturn, 1) := by decide +kernel
theorem dX9_init_0 : decode cX9_init 0 = .ok (.aload_n 0, 1) := by decide +kernel
theorem dX9_init_1 : decode cX9_init 1 = .ok (.invokespecial 1, 3) := by decide +kernel
theorem dX9_init_4 : decode cX9_init 4 = .ok (.aload_n 0, 1) := by decide +kernel
theorem dX9_init_5 : decode cX9_init 5 = .ok (.bipush 6, 2) := by decide +kernel
theorem dX9_init_7 : decode cX9_init 7 = .ok (.newarray .int, 2) := by decide +kernel
theorem dX9_init_9 : decode cX9_init 9 = .ok (.putfield 7, 3) := by decide +kernel
theorem dX9_init_12 : decode cX9_init 12 = .ok (.aload_n 0, 1) := by decide +kernel
theorem dX9_init_13 : decode cX9_init 13 = .ok (.bipush 16, 2) := by decide +kernel
theorem dX9_init_15 : decode cX9_init 15 = .ok (.newarray .int, 2) := by decide +kernel
theorem dX9_init_17 : decode cX9_init 17 = .ok (.putfield 13, 3) := by decide +kernel
theorem dX9_init_20 : decode cX9_init 20 = .ok (.aload_n 0, 1) := by decide +kernel
theorem dX9_init_21 : decode cX9_init 21 = .ok (.bipush 16, 2) := by decide +kernel
theorem dX9_init_23 : decode cX9_init 23 = .ok (.newarray .int, 2) := by decide +kernel
theorem dX9_init_25 : decode cX9_init 25 = .ok (.putfield 16, 3) := by decide +kernel
theorem dX9_init_28 : decode cX9_init 28 = .ok (.aload_n 0, 1) := by decide +kernel
theorem dX9_init_29 : decode cX9_init 29 = .ok (.bipush 16, 2) := by decide +kernel
theorem dX9_init_31 : decode cX9_init 31 = .ok (.newarray .int, 2) := by decide +kernel
theorem dX9_init_33 : decode cX9_init 33 = .ok (.putfield 19, 3) := by decide +kernel
theorem dX9_init_36 : decode cX9_init 36 = .ok (.aload_n 0, 1) := by decide +kernel
theorem dX9_init_37 : decode cX9_init 37 = .ok (.bipush 16, 2) := by decide +kernel
theorem dX9_init_39 : decode cX9_init 39 = .ok (.newarray .boolean, 2) := by decide +kernel
theorem dX9_init_41 : decode cX9_init 41 = .ok (.putfield 22, 3) := by decide +kernel
theorem dX9_init_44 : decode cX9_init 44 = .ok (.aload_n 0, 1) := by decide +kernel
theorem dX9_init_45 : decode cX9_init 45 = .ok (.bipush 16, 2) := by decide +kernel
theorem dX9_init_47 : decode cX9_init 47 = .ok (.newarray .boolean, 2) := by decide +kernel
theorem dX9_init_49 : decode cX9_init 49 = .ok (.putfield 26, 3) := by decide +kernel
theorem dX9_init_52 : decode cX9_init 52 = .ok (.aload_n 0, 1) := by decide +kernel
theorem dX9_init_53 : decode cX9_init 53 = .ok (.bipush 16, 2) := by decide +kernel
theorem dX9_init_55 : decode cX9_init 55 = .ok (.newarray .int, 2) := by decide +kernel
theorem dX9_init_57 : decode cX9_init 57 = .ok (.putfield 29, 3) := by decide +kernel
theorem dX9_init_60 : decode cX9_init 60 = .ok (.aload_n 0, 1) := by decide +kernel
theorem dX9_init_61 : decode cX9_init 61 = .ok (.bipush 16, 2) := by decide +kernel
theorem dX9_init_63 : decode cX9_init 63 = .ok (.newarray .int, 2) := by decide +kernel
theorem dX9_init_65 : decode cX9_init 65 = .ok (.putfield 32, 3) := by decide +kernel
theorem dX9_init_68 : decode cX9_init 68 = .ok (.aload_n 0, 1) := by decide +kernel
theorem dX9_init_69 : decode cX9_init 69 = .ok (.bipush 16, 2) := by decide +kernel
theorem dX9_init_71 : decode cX9_init 71 = .ok (.newarray .int, 2) := by decide +kernel
theorem dX9_init_73 : decode cX9_init 73 = .ok (.putfield 35, 3) := by decide +kernel
theorem dX9_init_76 : decode cX9_init 76 = .ok (.aload_n 0, 1) := by decide +kernel
theorem dX9_init_77 : decode cX9_init 77 = .ok (.bipush 16, 2) := by decide +kernel
theorem dX9_init_79 : decode cX9_init 79 = .ok (.newarray .int, 2) := by decide +kernel
theorem dX9_init_81 : decode cX9_init 81 = .ok (.putfield 38, 3) := by decide +kernel
theorem dX9_init_84 : decode cX9_init 84 = .ok (.aload_n 0, 1) := by decide +kernel
theorem dX9_init_85 : decode cX9_init 85 = .ok (.bipush 16, 2) := by decide +kernel
theorem dX9_init_87 : decode cX9_init 87 = .ok (.newarray .int, 2) := by decide +kernel
theorem dX9_init_89 : decode cX9_init 89 = .ok (.putfield 41, 3) := by decide +kernel
theorem dX9_init_92 : decode cX9_init 92 = .ok (.aload_n 0, 1) := by decide +kernel
theorem dX9_init_93 : decode cX9_init 93 = .ok (.iconst 4, 1) := by decide +kernel
theorem dX9_init_94 : decode cX9_init 94 = .ok (.newarray .int, 2) := by decide +kernel
theorem dX9_init_96 : decode cX9_init 96 = .ok (.putfield 44, 3) := by decide +kernel
theorem dX9_init_99 : decode cX9_init 99 = .ok (.aload_n 0, 1) := by decide +kernel
theorem dX9_init_100 : decode cX9_init 100 = .ok (.bipush 64, 2) := by decide +kernel
theorem dX9_init_102 : decode cX9_init 102 = .ok (.newarray .byte, 2) := by decide +kernel
theorem dX9_init_104 : decode cX9_init 104 = .ok (.putfield 47, 3) := by decide +kernel
theorem dX9_init_107 : decode cX9_init 107 = .ok (.aload_n 0, 1) := by decide +kernel
theorem dX9_init_108 : decode cX9_init 108 = .ok (.bipush 16, 2) := by decide +kernel
theorem dX9_init_110 : decode cX9_init 110 = .ok (.newarray .byte, 2) := by decide +kernel
theorem dX9_init_112 : decode cX9_init 112 = .ok (.putfield 51, 3) := by decide +kernel
theorem dX9_init_115 : decode cX9_init 115 = .ok (.aload_n 0, 1) := by decide +kernel
theorem dX9_init_116 : decode cX9_init 116 = .ok (.bipush 120, 2) := by decide +kernel
theorem dX9_init_118 : decode cX9_init 118 = .ok (.newarray .int, 2) := by decide +kernel
theorem dX9_init_120 : decode cX9_init 120 = .ok (.putfield 54, 3) := by decide +kernel
theorem dX9_init_123 : decode cX9_init 123 = .ok (.aload_n 0, 1) := by decide +kernel
theorem dX9_init_124 : decode cX9_init 124 = .ok (.bipush 120, 2) := by decide +kernel
theorem dX9_init_126 : decode cX9_init 126 = .ok (.newarray .int, 2) := by decide +kernel
theorem dX9_init_128 : decode cX9_init 128 = .ok (.putfield 57, 3) := by decide +kernel
theorem dX9_init_131 : decode cX9_init 131 = .ok (.aload_n 0, 1) := by decide +kernel
theorem dX9_init_132 : decode cX9_init 132 = .ok (.bipush 120, 2) := by decide +kernel
theorem dX9_init_134 : decode cX9_init 134 = .ok (.newarray .int, 2) := by decide +kernel
theorem dX9_init_136 : decode cX9_init 136 = .ok (.putfield 60, 3) := by decide +kernel
theorem dX9_init_139 : decode cX9_init 139 = .ok (.aload_n 0, 1) := by decide +kernel
theorem dX9_init_140 : decode cX9_init 140 = .ok (.bipush 120, 2) := by decide +kernel
theorem dX9_init_142 : decode cX9_init 142 = .ok (.newarray .int, 2) := by decide +kernel
theorem dX9_init_144 : decode cX9_init 144 = .ok (.putfield 63, 3) := by decide +kernel
theorem dX9_init_147 : decode cX9_init 147 = .ok (.aload_n 0, 1) := by decide +kernel
theorem dX9_init_148 : decode cX9_init 148 = .ok (.bipush 16, 2) := by decide +kernel
theorem dX9_init_150 : decode cX9_init 150 = .ok (.newarray .int, 2) := by decide +kernel
theorem dX9_init_152 : decode cX9_init 152 = .ok (.putfield 66, 3) := by decide +kernel
theorem dX9_init_155 : decode cX9_init 155 = .ok (.aload_n 0, 1) := by decide +kernel
theorem dX9_init_156 : decode cX9_init 156 = .ok (.sipush 256, 3) := by decide +kernel
theorem dX9_init_159 : decode cX9_init 159 = .ok (.newarray .int, 2) := by decide +kernel
theorem dX9_init_161 : decode cX9_init 161 = .ok (.putfield 69, 3) := by decide +kernel
theorem dX9_init_164 : decode cX9_init 164 = .ok (.aload_n 0, 1) := by decide +kernel
theorem dX9_init_165 : decode cX9_init 165 = .ok (.ldc 72, 2) := by decide +kernel
theorem dX9_init_167 : decode cX9_init 167 = .ok (.newarray .int, 2) := by decide +kernel
theorem dX9_init_169 : decode cX9_init 169 = .ok (.putfield 73, 3) := by decide +kernel
theorem dX9_init_172 : decode cX9_init 172 = .ok (.aload_n 0, 1) := by decide +kernel
theorem dX9_init_173 : decode cX9_init 173 = .ok (.bipush 12, 2) := by decide +kernel
theorem dX9_init_175 : decode cX9_init 175 = .ok (.newarray .int, 2) := by decide +kernel
theorem dX9_init_177 : decode cX9_init 177 = .ok (.putfield 76, 3) := by decide +kernel
theorem dX9_init_180 : decode cX9_init 180 = .ok (.aload_n 0, 1) := by decide +kernel
theorem dX9_init_181 : decode cX9_init 181 = .ok (.bipush 12, 2) := by decide +kernel
theorem dX9_init_183 : decode cX9_init 183 = .ok (.newarray .int, 2) := by decide +kernel
theorem dX9_init_185 : decode cX9_init 185 = .ok (.putfield 79, 3) := by decide +kernel
theorem dX9_init_188 : decode cX9_init 188 = .ok (.aload_n 0, 1) := by decide +kernel
theorem dX9_init_189 : decode cX9_init 189 = .ok (.bipush 12, 2) := by decide +kernel
theorem dX9_init_191 : decode cX9_init 191 = .ok (.newarray .int, 2) := by decide +kernel
theorem dX9_init_193 : decode cX9_init 193 = .ok (.putfield 82, 3) := by decide +kernel
theorem dX9_init_196 : decode cX9_init 196 = .ok (.aload_n 0, 1) := by decide +kernel
theorem dX9_init_197 : decode cX9_init 197 = .ok (.bipush 16, 2) := by decide +kernel
theorem dX9_init_199 : decode cX9_init 199 = .ok (.newarray .int, 2) := by decide +kernel
theorem dX9_init_201 : decode cX9_init 201 = .ok (.putfield 85, 3) := by decide +kernel
theorem dX9_init_204 : decode cX9_init 204 = .ok (.aload_n 0, 1) := by decide +kernel
theorem dX9_init_205 : decode cX9_init 205 = .ok (.bipush 16, 2) := by decide +kernel
theorem dX9_init_207 : decode cX9_init 207 = .ok (.newarray .int, 2) := by decide +kernel
theorem dX9_init_209 : decode cX9_init 209 = .ok (.putfield 88, 3) := by decide +kernel
theorem dX9_init_212 : decode cX9_init 212 = .ok (.aload_n 0, 1) := by decide +kernel
theorem dX9_init_213 : decode cX9_init 213 = .ok (.bipush 16, 2) := by decide +kernel
theorem dX9_init_215 : decode cX9_init 215 = .ok (.newarray .int, 2) := by decide +kernel
theorem dX9_init_217 : decode cX9_init 217 = .ok (.putfield 91, 3) := by decide +kernel
theorem dX9_init_220 : decode cX9_init 220 = .ok (.aload_n 0, 1) := by decide +kernel
theorem dX9_init_221 : decode cX9_init 221 = .ok (.bipush 16, 2) := by decide +kernel
theorem dX9_init_223 : decode cX9_init 223 = .ok (.newarray .int, 2) := by decide +kernel
theorem dX9_init_225 : decode cX9_init 225 = .ok (.putfield 94, 3) := by decide +kernel
theorem dX9_init_228 : decode cX9_init 228 = .ok (.aload_n 0, 1) := by decide +kernel
theorem dX9_init_229 : decode cX9_init 229 = .ok (.bipush 16, 2) := by decide +kernel
theorem dX9_init_231 : decode cX9_init 231 = .ok (.newarray .int, 2) := by decide +kernel
theorem dX9_init_233 : decode cX9_init 233 = .ok (.putfield 97, 3) := by decide +kernel
theorem dX9_init_236 : decode cX9_init 236 = .ok (.aload_n 0, 1) := by decide +kernel
theorem dX9_init_237 : decode cX9_init 237 = .ok (.bipush 16, 2) := by decide +kernel
theorem dX9_init_239 : decode cX9_init 239 = .ok (.newarray .int, 2) := by decide +kernel
theorem dX9_init_241 : decode cX9_init 241 = .ok (.putfield 100, 3) := by decide +kernel
theorem dX9_init_244 : decode cX9_init 244 = .ok (.aload_n 0, 1) := by decide +kernel
theorem dX9_init_245 : decode cX9_init 245 = .ok (.bipush 16, 2) := by decide +kernel
theorem dX9_init_247 : decode cX9_init 247 = .ok (.newarray .int, 2) := by decide +kernel
theorem dX9_init_249 : decode cX9_init 249 = .ok (.putfield 103, 3) := by decide +kernel
theorem dX9_init_252 : decode cX9_init 252 = .ok (.aload_n 0, 1) := by decide +kernel
theorem dX9_init_253 : decode cX9_init 253 = .ok (.bipush 16, 2) := by decide +kernel
theorem dX9_init_255 : decode cX9_init 255 = .ok (.newarray .int, 2) := by decide +kernel
theorem dX9_init_257 : decode cX9_init 257 = .ok (.putfield 106, 3) := by decide +kernel
theorem dX9_init_260 : decode cX9_init 260 = .ok (.aload_n 0, 1) := by decide +kernel
theorem dX9_init_261 : decode cX9_init 261 = .ok (.bipush 16, 2) := by decide +kernel
theorem dX9_init_263 : decode cX9_init 263 = .ok (.newarray .int, 2) := by decide +kernel
theorem dX9_init_265 : decode cX9_init 265 = .ok (.putfield 109, 3) := by decide +kernel
theorem dX9_init_268 : decode cX9_init 268 = .ok (.aload_n 0, 1) := by decide +kernel
theorem dX9_init_269 : decode cX9_init 269 = .ok (.bipush (-9), 2) := by decide +kernel
theorem dX9_init_271 : decode cX9_init 271 = .ok (.putfield 112, 3) := by decide +kernel
theorem dX9_init_274 : decode cX9_init 274 = .ok (.aload_n 0, 1) := by decide +kernel
theorem dX9_init_275 : decode cX9_init 275 = .ok (.bipush (-9), 2) := by decide +kernel
theorem dX9_init_277 : decode cX9_init 277 = .ok (.putfield 116, 3) := by decide +kernel
theorem dX9_init_280 : decode cX9_init 280 = .ok (.iconst 0, 1) := by decide +kernel
theorem dX9_init_281 : decode cX9_init 281 = .ok (.istore_n 1, 1) := by decide +kernel
theorem dX9_init_282 : decode cX9_init 282 = .ok (.iload_n 1, 1) := by decide +kernel
theorem dX9_init_283 : decode cX9_init 283 = .ok (.iconst 4, 1) := by decide +kernel
theorem dX9_init_284 : decode cX9_init 284 = .ok (.if_icmp .ge 16, 3) := by decide +kernel
theorem dX9_init_287 : decode cX9_init 287 = .ok (.aload_n 0, 1) := by decide +kernel
theorem dX9_init_288 : decode cX9_init 288 = .ok (.getfield 44, 3) := by decide +kernel
theorem dX9_init_291 : decode cX9_init 291 = .ok (.iload_n 1, 1) := by decide +kernel
theorem dX9_init_292 : decode cX9_init 292 = .ok (.iconst (-1), 1) := by decide +kernel
theorem dX9_init_293 : decode cX9_init 293 = .ok (.iastore, 1) := by decide +kernel
theorem dX9_init_294 : decode cX9_init 294 = .ok (.iinc 1 1, 3) := by decide +kernel
theorem dX9_init_297 : decode cX9_init 297 = .ok (.goto (-15), 3) := by decide +kernel
theorem dX9_init_300 : decode cX9_init 300 = .ok (.iconst 0, 1) := by decide +kernel
theorem dX9_init_301 : decode cX9_init 301 = .ok (.istore_n 1, 1) := by decide +kernel
theorem dX9_init_302 : decode cX9_init 302 = .ok (.iload_n 1, 1) := by decide +kernel
theorem dX9_init_303 : decode cX9_init 303 = .ok (.bipush 16, 2) := by decide +kernel
theorem dX9_init_305 : decode cX9_init 305 = .ok (.if_icmp .ge 41, 3) := by decide +kernel
theorem dX9_init_308 : decode cX9_init 308 = .ok (.aload_n 0, 1) := by decide +kernel
theorem dX9_init_309 : decode cX9_init 309 = .ok (.getfield 85, 3) := by decide +kernel
theorem dX9_init_312 : decode cX9_init 312 = .ok (.iload_n 1, 1) := by decide +kernel
theorem dX9_init_313 : decode cX9_init 313 = .ok (.bipush (-9), 2) := by decide +kernel
theorem dX9_init_315 : decode cX9_init 315 = .ok (.iastore, 1) := by decide +kernel
theorem dX9_init_316 : decode cX9_init 316 = .ok (.aload_n 0, 1) := by decide +kernel
theorem dX9_init_317 : decode cX9_init 317 = .ok (.getfield 88, 3) := by decide +kernel
theorem dX9_init_320 : decode cX9_init 320 = .ok (.iload_n 1, 1) := by decide +kernel
theorem dX9_init_321 : decode cX9_init 321 = .ok (.bipush (-9), 2) := by decide +kernel
theorem dX9_init_323 : decode cX9_init 323 = .ok (.iastore, 1) := by decide +kernel
theorem dX9_init_324 : decode cX9_init 324 = .ok (.aload_n 0, 1) := by decide +kernel
theorem dX9_init_325 : decode cX9_init 325 = .ok (.getfield 91, 3) := by decide +kernel
theorem dX9_init_328 : decode cX9_init 328 = .ok (.iload_n 1, 1) := by decide +kernel
theorem dX9_init_329 : decode cX9_init 329 = .ok (.bipush (-9), 2) := by decide +kernel
theorem dX9_init_331 : decode cX9_init 331 = .ok (.iastore, 1) := by decide +kernel
theorem dX9_init_332 : decode cX9_init 332 = .ok (.aload_n 0, 1) := by decide +kernel
theorem dX9_init_333 : decode cX9_init 333 = .ok (.getfield 94, 3) := by decide +kernel
theorem dX9_init_336 : decode cX9_init 336 = .ok (.iload_n 1, 1) := by decide +kernel
theorem dX9_init_337 : decode cX9_init 337 = .ok (.bipush (-9), 2) := by decide +kernel
theorem dX9_init_339 : decode cX9_init 339 = .ok (.iastore, 1) := by decide +kernel
theorem dX9_init_340 : decode cX9_init 340 = .ok (.iinc 1 1, 3) := by decide +kernel
theorem dX9_init_343 : decode cX9_init 343 = .ok (.goto (-41), 3) := by decide +kernel
theorem dX9_init_346 : decode cX9_init 346 = .ok (.return_, 1) := by decide +kernel
theorem dX9_in_0 : decode cX9_in 0 = .ok (.iload_n 0, 1) := by decide +kernel
theorem dX9_in_1 : decode cX9_in 1 = .ok (.iload_n 1, 1) := by decide +kernel
theorem dX9_in_2 : decode cX9_in 2 = .ok (.if_icmp .lt 12, 3) := by decide +kernel
theorem dX9_in_5 : decode cX9_in 5 = .ok (.iload_n 0, 1) := by decide +kernel
theorem dX9_in_6 : decode cX9_in 6 = .ok (.iload_n 2, 1) := by decide +kernel
theorem dX9_in_7 : decode cX9_in 7 = .ok (.if_icmp .gt 7, 3) := by decide +kernel
theorem dX9_in_10 : decode cX9_in 10 = .ok (.iconst 1, 1) := by decide +kernel
theorem dX9_in_11 : decode cX9_in 11 = .ok (.goto 4, 3) := by decide +kernel
theorem dX9_in_14 : decode cX9_in 14 = .ok (.iconst 0, 1) := by decide +kernel
theorem dX9_in_15 : decode cX9_in 15 = .ok (.ireturn, 1) := by decide +kernel
theorem dX9_meets_0 : decode cX9_meets 0 = .ok (.aload_n 0, 1) := by decide +kernel
theorem dX9_meets_1 : decode cX9_meets 1 = .ok (.iload_n 1, 1) := by decide +kernel
theorem dX9_meets_2 : decode cX9_meets 2 = .ok (.putfield 119, 3) := by decide +kernel
theorem dX9_meets_5 : decode cX9_meets 5 = .ok (.aload_n 0, 1) := by decide +kernel
theorem dX9_meets_6 : decode cX9_meets 6 = .ok (.getfield 7, 3) := by decide +kernel
theorem dX9_meets_9 : decode cX9_meets 9 = .ok (.iload_n 1, 1) := by decide +kernel
theorem dX9_meets_10 : decode cX9_meets 10 = .ok (.dup2, 1) := by decide +kernel
theorem dX9_meets_11 : decode cX9_meets 11 = .ok (.iaload, 1) := by decide +kernel
theorem dX9_meets_12 : decode cX9_meets 12 = .ok (.iconst 1, 1) := by decide +kernel
theorem dX9_meets_13 : decode cX9_meets 13 = .ok (.iadd, 1) := by decide +kernel
theorem dX9_meets_14 : decode cX9_meets 14 = .ok (.iastore, 1) := by decide +kernel
theorem dX9_meets_15 : decode cX9_meets 15 = .ok (.bipush (-3), 2) := by decide +kernel
theorem dX9_meets_17 : decode cX9_meets 17 = .ok (.ireturn, 1) := by decide +kernel
theorem dX9_finding_0 : decode cX9_finding 0 = .ok (.aload_n 0, 1) := by decide +kernel
theorem dX9_finding_1 : decode cX9_finding 1 = .ok (.getfield 119, 3) := by decide +kernel
theorem dX9_finding_4 : decode cX9_finding 4 = .ok (.ireturn, 1) := by decide +kernel
theorem dX9_findings_0 : decode cX9_findings 0 = .ok (.iload_n 1, 1) := by decide +kernel
theorem dX9_findings_1 : decode cX9_findings 1 = .ok (.iconst 1, 1) := by decide +kernel
theorem dX9_findings_2 : decode cX9_findings 2 = .ok (.iconst 5, 1) := by decide +kernel
theorem dX9_findings_3 : decode cX9_findings 3 = .ok (.invokestatic 122, 3) := by decide +kernel
theorem dX9_findings_6 : decode cX9_findings 6 = .ok (.ifCond .eq 12, 3) := by decide +kernel
theorem dX9_findings_9 : decode cX9_findings 9 = .ok (.aload_n 0, 1) := by decide +kernel
theorem dX9_findings_10 : decode cX9_findings 10 = .ok (.getfield 7, 3) := by decide +kernel
theorem dX9_findings_13 : decode cX9_findings 13 = .ok (.iload_n 1, 1) := by decide +kernel
theorem dX9_findings_14 : decode cX9_findings 14 = .ok (.iaload, 1) := by decide +kernel
theorem dX9_findings_15 : decode cX9_findings 15 = .ok (.goto 4, 3) := by decide +kernel
theorem dX9_findings_18 : decode cX9_findings 18 = .ok (.iconst (-1), 1) := by decide +kernel
theorem dX9_findings_19 : decode cX9_findings 19 = .ok (.ireturn, 1) := by decide +kernel
theorem dX9_rungOf_0 : decode cX9_rungOf 0 = .ok (.iconst 0, 1) := by decide +kernel
theorem dX9_rungOf_1 : decode cX9_rungOf 1 = .ok (.istore_n 2, 1) := by decide +kernel
theorem dX9_rungOf_2 : decode cX9_rungOf 2 = .ok (.iload_n 2, 1) := by decide +kernel
theorem dX9_rungOf_3 : decode cX9_rungOf 3 = .ok (.aload_n 0, 1) := by decide +kernel
theorem dX9_rungOf_4 : decode cX9_rungOf 4 = .ok (.getfield 126, 3) := by decide +kernel
theorem dX9_rungOf_7 : decode cX9_rungOf 7 = .ok (.if_icmp .ge 21, 3) := by decide +kernel
theorem dX9_rungOf_10 : decode cX9_rungOf 10 = .ok (.aload_n 0, 1) := by decide +kernel
theorem dX9_rungOf_11 : decode cX9_rungOf 11 = .ok (.getfield 41, 3) := by decide +kernel
theorem dX9_rungOf_14 : decode cX9_rungOf 14 = .ok (.iload_n 2, 1) := by decide +kernel
theorem dX9_rungOf_15 : decode cX9_rungOf 15 = .ok (.iaload, 1) := by decide +kernel
theorem dX9_rungOf_16 : decode cX9_rungOf 16 = .ok (.iload_n 1, 1) := by decide +kernel
theorem dX9_rungOf_17 : decode cX9_rungOf 17 = .ok (.if_icmp .ne 5, 3) := by decide +kernel
theorem dX9_rungOf_20 : decode cX9_rungOf 20 = .ok (.iload_n 2, 1) := by decide +kernel
theorem dX9_rungOf_21 : decode cX9_rungOf 21 = .ok (.ireturn, 1) := by decide +kernel
theorem dX9_rungOf_22 : decode cX9_rungOf 22 = .ok (.iinc 2 1, 3) := by decide +kernel
theorem dX9_rungOf_25 : decode cX9_rungOf 25 = .ok (.goto (-23), 3) := by decide +kernel
theorem dX9_rungOf_28 : decode cX9_rungOf 28 = .ok (.bipush (-9), 2) := by decide +kernel
theorem dX9_rungOf_30 : decode cX9_rungOf 30 = .ok (.ireturn, 1) := by decide +kernel
theorem dX9_wrestler_0 : decode cX9_wrestler 0 = .ok (.iload_n 1, 1) := by decide +kernel
theorem dX9_wrestler_1 : decode cX9_wrestler 1 = .ok (.iconst 0, 1) := by decide +kernel
theorem dX9_wrestler_2 : decode cX9_wrestler 2 = .ok (.iconst 2, 1) := by decide +kernel
theorem dX9_wrestler_3 : decode cX9_wrestler 3 = .ok (.invokestatic 122, 3) := by decide +kernel
theorem dX9_wrestler_6 : decode cX9_wrestler 6 = .ok (.ifCond .eq 29, 3) := by decide +kernel
theorem dX9_wrestler_9 : decode cX9_wrestler 9 = .ok (.iload_n 2, 1) := by decide +kernel
theorem dX9_wrestler_10 : decode cX9_wrestler 10 = .ok (.iconst 0, 1) := by decide +kernel
theorem dX9_wrestler_11 : decode cX9_wrestler 11 = .ok (.bipush 7, 2) := by decide +kernel
theorem dX9_wrestler_13 : decode cX9_wrestler 13 = .ok (.invokestatic 122, 3) := by decide +kernel
theorem dX9_wrestler_16 : decode cX9_wrestler 16 = .ok (.ifCond .eq 19, 3) := by decide +kernel
theorem dX9_wrestler_19 : decode cX9_wrestler 19 = .ok (.iload_n 3, 1) := by decide +kernel
theorem dX9_wrestler_20 : decode cX9_wrestler 20 = .ok (.bipush (-9), 2) := by decide +kernel
theorem dX9_wrestler_22 : decode cX9_wrestler 22 = .ok (.if_icmp .eq 15, 3) := by decide +kernel
theorem dX9_wrestler_25 : decode cX9_wrestler 25 = .ok (.iload_n 3, 1) := by decide +kernel
theorem dX9_wrestler_26 : decode cX9_wrestler 26 = .ok (.iconst 0, 1) := by decide +kernel
theorem dX9_wrestler_27 : decode cX9_wrestler 27 = .ok (.bipush 7, 2) := by decide +kernel
theorem dX9_wrestler_29 : decode cX9_wrestler 29 = .ok (.invokestatic 122, 3) := by decide +kernel
theorem dX9_wrestler_32 : decode cX9_wrestler 32 = .ok (.ifCond .ne 5, 3) := by decide +kernel
theorem dX9_wrestler_35 : decode cX9_wrestler 35 = .ok (.iconst (-1), 1) := by decide +kernel
theorem dX9_wrestler_36 : decode cX9_wrestler 36 = .ok (.ireturn, 1) := by decide +kernel
theorem dX9_wrestler_37 : decode cX9_wrestler 37 = .ok (.aload_n 0, 1) := by decide +kernel
theorem dX9_wrestler_38 : decode cX9_wrestler 38 = .ok (.getfield 129, 3) := by decide +kernel
theorem dX9_wrestler_41 : decode cX9_wrestler 41 = .ok (.bipush 16, 2) := by decide +kernel
theorem dX9_wrestler_43 : decode cX9_wrestler 43 = .ok (.if_icmp .ne 6, 3) := by decide +kernel
theorem dX9_wrestler_46 : decode cX9_wrestler 46 = .ok (.bipush (-2), 2) := by decide +kernel
theorem dX9_wrestler_48 : decode cX9_wrestler 48 = .ok (.ireturn, 1) := by decide +kernel
theorem dX9_wrestler_49 : decode cX9_wrestler 49 = .ok (.aload_n 0, 1) := by decide +kernel
theorem dX9_wrestler_50 : decode cX9_wrestler 50 = .ok (.getfield 132, 3) := by decide +kernel
theorem dX9_wrestler_53 : decode cX9_wrestler 53 = .ok (.ifCond .eq 6, 3) := by decide +kernel
theorem dX9_wrestler_56 : decode cX9_wrestler 56 = .ok (.bipush (-4), 2) := by decide +kernel
theorem dX9_wrestler_58 : decode cX9_wrestler 58 = .ok (.ireturn, 1) := by decide +kernel
theorem dX9_wrestler_59 : decode cX9_wrestler 59 = .ok (.aload_n 0, 1) := by decide +kernel
theorem dX9_wrestler_60 : decode cX9_wrestler 60 = .ok (.getfield 13, 3) := by decide +kernel
theorem dX9_wrestler_63 : decode cX9_wrestler 63 = .ok (.aload_n 0, 1) := by decide +kernel
theorem dX9_wrestler_64 : decode cX9_wrestler 64 = .ok (.getfield 129, 3) := by decide +kernel
theorem dX9_wrestler_67 : decode cX9_wrestler 67 = .ok (.iload_n 1, 1) := by decide +kernel
theorem dX9_wrestler_68 : decode cX9_wrestler 68 = .ok (.iastore, 1) := by decide +kernel
theorem dX9_wrestler_69 : decode cX9_wrestler 69 = .ok (.aload_n 0, 1) := by decide +kernel
theorem dX9_wrestler_70 : decode cX9_wrestler 70 = .ok (.getfield 16, 3) := by decide +kernel
theorem dX9_wrestler_73 : decode cX9_wrestler 73 = .ok (.aload_n 0, 1) := by decide +kernel
theorem dX9_wrestler_74 : decode cX9_wrestler 74 = .ok (.getfield 129, 3) := by decide +kernel
theorem dX9_wrestler_77 : decode cX9_wrestler 77 = .ok (.iload_n 2, 1) := by decide +kernel
theorem dX9_wrestler_78 : decode cX9_wrestler 78 = .ok (.iastore, 1) := by decide +kernel
theorem dX9_wrestler_79 : decode cX9_wrestler 79 = .ok (.aload_n 0, 1) := by decide +kernel
theorem dX9_wrestler_80 : decode cX9_wrestler 80 = .ok (.getfield 19, 3) := by decide +kernel
theorem dX9_wrestler_83 : decode cX9_wrestler 83 = .ok (.aload_n 0, 1) := by decide +kernel
theorem dX9_wrestler_84 : decode cX9_wrestler 84 = .ok (.getfield 129, 3) := by decide +kernel
theorem dX9_wrestler_87 : decode cX9_wrestler 87 = .ok (.iload_n 3, 1) := by decide +kernel
theorem dX9_wrestler_88 : decode cX9_wrestler 88 = .ok (.iastore, 1) := by decide +kernel
theorem dX9_wrestler_89 : decode cX9_wrestler 89 = .ok (.aload_n 0, 1) := by decide +kernel
theorem dX9_wrestler_90 : decode cX9_wrestler 90 = .ok (.getfield 41, 3) := by decide +kernel
theorem dX9_wrestler_93 : decode cX9_wrestler 93 = .ok (.aload_n 0, 1) := by decide +kernel
theorem dX9_wrestler_94 : decode cX9_wrestler 94 = .ok (.getfield 126, 3) := by decide +kernel
theorem dX9_wrestler_97 : decode cX9_wrestler 97 = .ok (.aload_n 0, 1) := by decide +kernel
theorem dX9_wrestler_98 : decode cX9_wrestler 98 = .ok (.getfield 129, 3) := by decide +kernel
theorem dX9_wrestler_101 : decode cX9_wrestler 101 = .ok (.iastore, 1) := by decide +kernel
theorem dX9_wrestler_102 : decode cX9_wrestler 102 = .ok (.aload_n 0, 1) := by decide +kernel
theorem dX9_wrestler_103 : decode cX9_wrestler 103 = .ok (.dup, 1) := by decide +kernel
theorem dX9_wrestler_104 : decode cX9_wrestler 104 = .ok (.getfield 126, 3) := by decide +kernel
theorem dX9_wrestler_107 : decode cX9_wrestler 107 = .ok (.iconst 1, 1) := by decide +kernel
theorem dX9_wrestler_108 : decode cX9_wrestler 108 = .ok (.iadd, 1) := by decide +kernel
theorem dX9_wrestler_109 : decode cX9_wrestler 109 = .ok (.putfield 126, 3) := by decide +kernel
theorem dX9_wrestler_112 : decode cX9_wrestler 112 = .ok (.aload_n 0, 1) := by decide +kernel
theorem dX9_wrestler_113 : decode cX9_wrestler 113 = .ok (.dup, 1) := by decide +kernel
theorem dX9_wrestler_114 : decode cX9_wrestler 114 = .ok (.getfield 129, 3) := by decide +kernel
theorem dX9_wrestler_117 : decode cX9_wrestler 117 = .ok (.iconst 1, 1) := by decide +kernel
theorem dX9_wrestler_118 : decode cX9_wrestler 118 = .ok (.iadd, 1) := by decide +kernel
theorem dX9_wrestler_119 : decode cX9_wrestler 119 = .ok (.putfield 129, 3) := by decide +kernel
theorem dX9_wrestler_122 : decode cX9_wrestler 122 = .ok (.aload_n 0, 1) := by decide +kernel
theorem dX9_wrestler_123 : decode cX9_wrestler 123 = .ok (.iconst 0, 1) := by decide +kernel
theorem dX9_wrestler_124 : decode cX9_wrestler 124 = .ok (.putfield 136, 3) := by decide +kernel
theorem dX9_wrestler_127 : decode cX9_wrestler 127 = .ok (.aload_n 0, 1) := by decide +kernel
theorem dX9_wrestler_128 : decode cX9_wrestler 128 = .ok (.getfield 129, 3) := by decide +kernel
theorem dX9_wrestler_131 : decode cX9_wrestler 131 = .ok (.iconst 1, 1) := by decide +kernel
theorem dX9_wrestler_132 : decode cX9_wrestler 132 = .ok (.isub, 1) := by decide +kernel
theorem dX9_wrestler_133 : decode cX9_wrestler 133 = .ok (.ireturn, 1) := by decide +kernel
theorem dX9_isOne_0 : decode cX9_isOne 0 = .ok (.iload_n 1, 1) := by decide +kernel
theorem dX9_isOne_1 : decode cX9_isOne 1 = .ok (.iconst 0, 1) := by decide +kernel
theorem dX9_isOne_2 : decode cX9_isOne 2 = .ok (.aload_n 0, 1) := by decide +kernel
theorem dX9_isOne_3 : decode cX9_isOne 3 = .ok (.getfield 129, 3) := by decide +kernel
theorem dX9_isOne_6 : decode cX9_isOne 6 = .ok (.iconst 1, 1) := by decide +kernel
theorem dX9_isOne_7 : decode cX9_isOne 7 = .ok (.isub, 1) := by decide +kernel
theorem dX9_isOne_8 : decode cX9_isOne 8 = .ok (.invokestatic 122, 3) := by decide +kernel
theorem dX9_isOne_11 : decode cX9_isOne 11 = .ok (.ireturn, 1) := by decide +kernel
theorem dX9_need_0 : decode cX9_need 0 = .ok (.aload_n 0, 1) := by decide +kernel
theorem dX9_need_1 : decode cX9_need 1 = .ok (.iload_n 2, 1) := by decide +kernel
theorem dX9_need_2 : decode cX9_need 2 = .ok (.invokevirtual 139, 3) := by decide +kernel
theorem dX9_need_5 : decode cX9_need 5 = .ok (.ifCond .eq 7, 3) := by decide +kernel
theorem dX9_need_8 : decode cX9_need 8 = .ok (.iload_n 1, 1) := by decide +kernel
theorem dX9_need_9 : decode cX9_need 9 = .ok (.ifCond .ne 7, 3) := by decide +kernel
theorem dX9_need_12 : decode cX9_need 12 = .ok (.iconst (-1), 1) := by decide +kernel
theorem dX9_need_13 : decode cX9_need 13 = .ok (.goto 21, 3) := by decide +kernel
theorem dX9_need_16 : decode cX9_need 16 = .ok (.aload_n 0, 1) := by decide +kernel
theorem dX9_need_17 : decode cX9_need 17 = .ok (.getfield 22, 3) := by decide +kernel
theorem dX9_need_20 : decode cX9_need 20 = .ok (.iload_n 2, 1) := by decide +kernel
theorem dX9_need_21 : decode cX9_need 21 = .ok (.baload, 1) := by decide +kernel
theorem dX9_need_22 : decode cX9_need 22 = .ok (.ifCond .eq 11, 3) := by decide +kernel
theorem dX9_need_25 : decode cX9_need 25 = .ok (.aload_n 0, 1) := by decide +kernel
theorem dX9_need_26 : decode cX9_need 26 = .ok (.iconst 1, 1) := by decide +kernel
theorem dX9_need_27 : decode cX9_need 27 = .ok (.invokevirtual 143, 3) := by decide +kernel
theorem dX9_need_30 : decode cX9_need 30 = .ok (.goto 4, 3) := by decide +kernel
theorem dX9_need_33 : decode cX9_need 33 = .ok (.iconst 0, 1) := by decide +kernel
theorem dX9_need_34 : decode cX9_need 34 = .ok (.ireturn, 1) := by decide +kernel
theorem dX9_leave_0 : decode cX9_leave 0 = .ok (.aload_n 0, 1) := by decide +kernel
theorem dX9_leave_1 : decode cX9_leave 1 = .ok (.iload_n 1, 1) := by decide +kernel
theorem dX9_leave_2 : decode cX9_leave 2 = .ok (.invokevirtual 139, 3) := by decide +kernel
theorem dX9_leave_5 : decode cX9_leave 5 = .ok (.ifCond .ne 5, 3) := by decide +kernel
theorem dX9_leave_8 : decode cX9_leave 8 = .ok (.iconst (-1), 1) := by decide +kernel
theorem dX9_leave_9 : decode cX9_leave 9 = .ok (.ireturn, 1) := by decide +kernel
theorem dX9_leave_10 : decode cX9_leave 10 = .ok (.aload_n 0, 1) := by decide +kernel
theorem dX9_leave_11 : decode cX9_leave 11 = .ok (.getfield 132, 3) := by decide +kernel
theorem dX9_leave_14 : decode cX9_leave 14 = .ok (.ifCond .eq 6, 3) := by decide +kernel
theorem dX9_leave_17 : decode cX9_leave 17 = .ok (.bipush (-4), 2) := by decide +kernel
theorem dX9_leave_19 : decode cX9_leave 19 = .ok (.ireturn, 1) := by decide +kernel
theorem dX9_leave_20 : decode cX9_leave 20 = .ok (.aload_n 0, 1) := by decide +kernel
theorem dX9_leave_21 : decode cX9_leave 21 = .ok (.getfield 22, 3) := by decide +kernel
theorem dX9_leave_24 : decode cX9_leave 24 = .ok (.iload_n 1, 1) := by decide +kernel
theorem dX9_leave_25 : decode cX9_leave 25 = .ok (.baload, 1) := by decide +kernel
theorem dX9_leave_26 : decode cX9_leave 26 = .ok (.ifCond .eq 9, 3) := by decide +kernel
theorem dX9_leave_29 : decode cX9_leave 29 = .ok (.aload_n 0, 1) := by decide +kernel
theorem dX9_leave_30 : decode cX9_leave 30 = .ok (.iconst 1, 1) := by decide +kernel
theorem dX9_leave_31 : decode cX9_leave 31 = .ok (.invokevirtual 143, 3) := by decide +kernel
theorem dX9_leave_34 : decode cX9_leave 34 = .ok (.ireturn, 1) := by decide +kernel
theorem dX9_leave_35 : decode cX9_leave 35 = .ok (.aload_n 0, 1) := by decide +kernel
theorem dX9_leave_36 : decode cX9_leave 36 = .ok (.iload_n 1, 1) := by decide +kernel
theorem dX9_leave_37 : decode cX9_leave 37 = .ok (.invokevirtual 147, 3) := by decide +kernel
theorem dX9_leave_40 : decode cX9_leave 40 = .ok (.istore_n 2, 1) := by decide +kernel
theorem dX9_leave_41 : decode cX9_leave 41 = .ok (.iload_n 2, 1) := by decide +kernel
theorem dX9_leave_42 : decode cX9_leave 42 = .ok (.istore_n 3, 1) := by decide +kernel
theorem dX9_leave_43 : decode cX9_leave 43 = .ok (.iload_n 3, 1) := by decide +kernel
theorem dX9_leave_44 : decode cX9_leave 44 = .ok (.iconst 1, 1) := by decide +kernel
theorem dX9_leave_45 : decode cX9_leave 45 = .ok (.iadd, 1) := by decide +kernel
theorem dX9_leave_46 : decode cX9_leave 46 = .ok (.aload_n 0, 1) := by decide +kernel
theorem dX9_leave_47 : decode cX9_leave 47 = .ok (.getfield 126, 3) := by decide +kernel
theorem dX9_leave_50 : decode cX9_leave 50 = .ok (.if_icmp .ge 23, 3) := by decide +kernel
theorem dX9_leave_53 : decode cX9_leave 53 = .ok (.aload_n 0, 1) := by decide +kernel
theorem dX9_leave_54 : decode cX9_leave 54 = .ok (.getfield 41, 3) := by decide +kernel
theorem dX9_leave_57 : decode cX9_leave 57 = .ok (.iload_n 3, 1) := by decide +kernel
theorem dX9_leave_58 : decode cX9_leave 58 = .ok (.aload_n 0, 1) := by decide +kernel
theorem dX9_leave_59 : decode cX9_leave 59 = .ok (.getfield 41, 3) := by decide +kernel
theorem dX9_leave_62 : decode cX9_leave 62 = .ok (.iload_n 3, 1) := by decide +kernel
theorem dX9_leave_63 : decode cX9_leave 63 = .ok (.iconst 1, 1) := by decide +kernel
theorem dX9_leave_64 : decode cX9_leave 64 = .ok (.iadd, 1) := by decide +kernel
theorem dX9_leave_65 : decode cX9_leave 65 = .ok (.iaload, 1) := by decide +kernel
theorem dX9_leave_66 : decode cX9_leave 66 = .ok (.iastore, 1) := by decide +kernel
theorem dX9_leave_67 : decode cX9_leave 67 = .ok (.iinc 3 1, 3) := by decide +kernel
theorem dX9_leave_70 : decode cX9_leave 70 = .ok (.goto (-27), 3) := by decide +kernel
theorem dX9_leave_73 : decode cX9_leave 73 = .ok (.aload_n 0, 1) := by decide +kernel
theorem dX9_leave_74 : decode cX9_leave 74 = .ok (.dup, 1) := by decide +kernel
theorem dX9_leave_75 : decode cX9_leave 75 = .ok (.getfield 126, 3) := by decide +kernel
theorem dX9_leave_78 : decode cX9_leave 78 = .ok (.iconst 1, 1) := by decide +kernel
theorem dX9_leave_79 : decode cX9_leave 79 = .ok (.isub, 1) := by decide +kernel
theorem dX9_leave_80 : decode cX9_leave 80 = .ok (.putfield 126, 3) := by decide +kernel
theorem dX9_leave_83 : decode cX9_leave 83 = .ok (.aload_n 0, 1) := by decide +kernel
theorem dX9_leave_84 : decode cX9_leave 84 = .ok (.getfield 22, 3) := by decide +kernel
theorem dX9_leave_87 : decode cX9_leave 87 = .ok (.iload_n 1, 1) := by decide +kernel
theorem dX9_leave_88 : decode cX9_leave 88 = .ok (.iconst 1, 1) := by decide +kernel
theorem dX9_leave_89 : decode cX9_leave 89 = .ok (.bastore, 1) := by decide +kernel
theorem dX9_leave_90 : decode cX9_leave 90 = .ok (.aload_n 0, 1) := by decide +kernel
theorem dX9_leave_91 : decode cX9_leave 91 = .ok (.iconst 0, 1) := by decide +kernel
theorem dX9_leave_92 : decode cX9_leave 92 = .ok (.putfield 136, 3) := by decide +kernel
theorem dX9_leave_95 : decode cX9_leave 95 = .ok (.iload_n 2, 1) := by decide +kernel
theorem dX9_leave_96 : decode cX9_leave 96 = .ok (.ireturn, 1) := by decide +kernel
theorem dX9_toldOf_0 : decode cX9_toldOf 0 = .ok (.iload_n 2, 1) := by decide +kernel
theorem dX9_toldOf_1 : decode cX9_toldOf 1 = .ok (.tableswitch 80 0 5 #[39, 46, 53, 60, 66, 73], 39) := by decide +kernel
theorem dX9_toldOf_40 : decode cX9_toldOf 40 = .ok (.aload_n 0, 1) := by decide +kernel
theorem dX9_toldOf_41 : decode cX9_toldOf 41 = .ok (.getfield 13, 3) := by decide +kernel
theorem dX9_toldOf_44 : decode cX9_toldOf 44 = .ok (.iload_n 1, 1) := by decide +kernel
theorem dX9_toldOf_45 : decode cX9_toldOf 45 = .ok (.iaload, 1) := by decide +kernel
theorem dX9_toldOf_46 : decode cX9_toldOf 46 = .ok (.ireturn, 1) := by decide +kernel
theorem dX9_toldOf_47 : decode cX9_toldOf 47 = .ok (.aload_n 0, 1) := by decide +kernel
theorem dX9_toldOf_48 : decode cX9_toldOf 48 = .ok (.getfield 16, 3) := by decide +kernel
theorem dX9_toldOf_51 : decode cX9_toldOf 51 = .ok (.iload_n 1, 1) := by decide +kernel
theorem dX9_toldOf_52 : decode cX9_toldOf 52 = .ok (.iaload, 1) := by decide +kernel
theorem dX9_toldOf_53 : decode cX9_toldOf 53 = .ok (.ireturn, 1) := by decide +kernel
theorem dX9_toldOf_54 : decode cX9_toldOf 54 = .ok (.aload_n 0, 1) := by decide +kernel
theorem dX9_toldOf_55 : decode cX9_toldOf 55 = .ok (.getfield 19, 3) := by decide +kernel
theorem dX9_toldOf_58 : decode cX9_toldOf 58 = .ok (.iload_n 1, 1) := by decide +kernel
theorem dX9_toldOf_59 : decode cX9_toldOf 59 = .ok (.iaload, 1) := by decide +kernel
theorem dX9_toldOf_60 : decode cX9_toldOf 60 = .ok (.ireturn, 1) := by decide +kernel
theorem dX9_toldOf_61 : decode cX9_toldOf 61 = .ok (.aload_n 0, 1) := by decide +kernel
theorem dX9_toldOf_62 : decode cX9_toldOf 62 = .ok (.iload_n 1, 1) := by decide +kernel
theorem dX9_toldOf_63 : decode cX9_toldOf 63 = .ok (.invokevirtual 147, 3) := by decide +kernel
theorem dX9_toldOf_66 : decode cX9_toldOf 66 = .ok (.ireturn, 1) := by decide +kernel
theorem dX9_toldOf_67 : decode cX9_toldOf 67 = .ok (.aload_n 0, 1) := by decide +kernel
theorem dX9_toldOf_68 : decode cX9_toldOf 68 = .ok (.getfield 29, 3) := by decide +kernel
theorem dX9_toldOf_71 : decode cX9_toldOf 71 = .ok (.iload_n 1, 1) := by decide +kernel
theorem dX9_toldOf_72 : decode cX9_toldOf 72 = .ok (.iaload, 1) := by decide +kernel
theorem dX9_toldOf_73 : decode cX9_toldOf 73 = .ok (.ireturn, 1) := by decide +kernel
theorem dX9_toldOf_74 : decode cX9_toldOf 74 = .ok (.aload_n 0, 1) := by decide +kernel
theorem dX9_toldOf_75 : decode cX9_toldOf 75 = .ok (.getfield 32, 3) := by decide +kernel
theorem dX9_toldOf_78 : decode cX9_toldOf 78 = .ok (.iload_n 1, 1) := by decide +kernel
theorem dX9_toldOf_79 : decode cX9_toldOf 79 = .ok (.iaload, 1) := by decide +kernel
theorem dX9_toldOf_80 : decode cX9_toldOf 80 = .ok (.ireturn, 1) := by decide +kernel
theorem dX9_toldOf_81 : decode cX9_toldOf 81 = .ok (.aload_n 0, 1) := by decide +kernel
theorem dX9_toldOf_82 : decode cX9_toldOf 82 = .ok (.getfield 35, 3) := by decide +kernel
theorem dX9_toldOf_85 : decode cX9_toldOf 85 = .ok (.iload_n 1, 1) := by decide +kernel
theorem dX9_toldOf_86 : decode cX9_toldOf 86 = .ok (.iaload, 1) := by decide +kernel
theorem dX9_toldOf_87 : decode cX9_toldOf 87 = .ok (.ireturn, 1) := by decide +kernel
theorem dX9_told_0 : decode cX9_told 0 = .ok (.aload_n 0, 1) := by decide +kernel
theorem dX9_told_1 : decode cX9_told 1 = .ok (.iload_n 2, 1) := by decide +kernel
theorem dX9_told_2 : decode cX9_told 2 = .ok (.iconst 0, 1) := by decide +kernel
theorem dX9_told_3 : decode cX9_told 3 = .ok (.bipush 6, 2) := by decide +kernel
theorem dX9_told_5 : decode cX9_told 5 = .ok (.invokestatic 122, 3) := by decide +kernel
theorem dX9_told_8 : decode cX9_told 8 = .ok (.iload_n 1, 1) := by decide +kernel
theorem dX9_told_9 : decode cX9_told 9 = .ok (.invokevirtual 150, 3) := by decide +kernel
theorem dX9_told_12 : decode cX9_told 12 = .ok (.istore_n 3, 1) := by decide +kernel
end
section
theorem dX9_told_13 : decode cX9_told 13 = .ok (.iload_n 3, 1) := by decide +kernel
theorem dX9_told_14 : decode cX9_told 14 = .ok (.ifCond .ge 7, 3) := by decide +kernel
theorem dX9_told_17 : decode cX9_told 17 = .ok (.iload_n 3, 1) := by decide +kernel
theorem dX9_told_18 : decode cX9_told 18 = .ok (.goto 9, 3) := by decide +kernel
theorem dX9_told_21 : decode cX9_told 21 = .ok (.aload_n 0, 1) := by decide +kernel
theorem dX9_told_22 : decode cX9_told 22 = .ok (.iload_n 1, 1) := by decide +kernel
theorem dX9_told_23 : decode cX9_told 23 = .ok (.iload_n 2, 1) := by decide +kernel
theorem dX9_told_24 : decode cX9_told 24 = .ok (.invokevirtual 154, 3) := by decide +kernel
theorem dX9_told_27 : decode cX9_told 27 = .ok (.ireturn, 1) := by decide +kernel
theorem dX9_is_0 : decode cX9_is 0 = .ok (.aload_n 0, 1) := by decide +kernel
theorem dX9_is_1 : decode cX9_is 1 = .ok (.iload_n 2, 1) := by decide +kernel
theorem dX9_is_2 : decode cX9_is 2 = .ok (.iconst 0, 1) := by decide +kernel
theorem dX9_is_3 : decode cX9_is 3 = .ok (.iconst 2, 1) := by decide +kernel
theorem dX9_is_4 : decode cX9_is 4 = .ok (.invokestatic 122, 3) := by decide +kernel
theorem dX9_is_7 : decode cX9_is 7 = .ok (.iload_n 1, 1) := by decide +kernel
theorem dX9_is_8 : decode cX9_is 8 = .ok (.invokevirtual 150, 3) := by decide +kernel
theorem dX9_is_11 : decode cX9_is 11 = .ok (.istore_n 3, 1) := by decide +kernel
theorem dX9_is_12 : decode cX9_is 12 = .ok (.iload_n 3, 1) := by decide +kernel
theorem dX9_is_13 : decode cX9_is 13 = .ok (.ifCond .ge 7, 3) := by decide +kernel
theorem dX9_is_16 : decode cX9_is 16 = .ok (.iload_n 3, 1) := by decide +kernel
theorem dX9_is_17 : decode cX9_is 17 = .ok (.goto 22, 3) := by decide +kernel
theorem dX9_is_20 : decode cX9_is 20 = .ok (.iload_n 2, 1) := by decide +kernel
theorem dX9_is_21 : decode cX9_is 21 = .ok (.ifCond .eq 13, 3) := by decide +kernel
theorem dX9_is_24 : decode cX9_is 24 = .ok (.aload_n 0, 1) := by decide +kernel
theorem dX9_is_25 : decode cX9_is 25 = .ok (.getfield 13, 3) := by decide +kernel
theorem dX9_is_28 : decode cX9_is 28 = .ok (.iload_n 1, 1) := by decide +kernel
theorem dX9_is_29 : decode cX9_is 29 = .ok (.iaload, 1) := by decide +kernel
theorem dX9_is_30 : decode cX9_is 30 = .ok (.iload_n 2, 1) := by decide +kernel
theorem dX9_is_31 : decode cX9_is 31 = .ok (.if_icmp .ne 7, 3) := by decide +kernel
theorem dX9_is_34 : decode cX9_is 34 = .ok (.iconst 1, 1) := by decide +kernel
theorem dX9_is_35 : decode cX9_is 35 = .ok (.goto 4, 3) := by decide +kernel
theorem dX9_is_38 : decode cX9_is 38 = .ok (.iconst 0, 1) := by decide +kernel
theorem dX9_is_39 : decode cX9_is 39 = .ok (.ireturn, 1) := by decide +kernel
theorem dX9_on_0 : decode cX9_on 0 = .ok (.iload_n 1, 1) := by decide +kernel
theorem dX9_on_1 : decode cX9_on 1 = .ok (.iconst 0, 1) := by decide +kernel
theorem dX9_on_2 : decode cX9_on 2 = .ok (.aload_n 0, 1) := by decide +kernel
theorem dX9_on_3 : decode cX9_on 3 = .ok (.getfield 126, 3) := by decide +kernel
theorem dX9_on_6 : decode cX9_on 6 = .ok (.iconst 1, 1) := by decide +kernel
theorem dX9_on_7 : decode cX9_on 7 = .ok (.isub, 1) := by decide +kernel
theorem dX9_on_8 : decode cX9_on 8 = .ok (.invokestatic 122, 3) := by decide +kernel
theorem dX9_on_11 : decode cX9_on 11 = .ok (.ifCond .eq 12, 3) := by decide +kernel
theorem dX9_on_14 : decode cX9_on 14 = .ok (.aload_n 0, 1) := by decide +kernel
theorem dX9_on_15 : decode cX9_on 15 = .ok (.getfield 41, 3) := by decide +kernel
theorem dX9_on_18 : decode cX9_on 18 = .ok (.iload_n 1, 1) := by decide +kernel
theorem dX9_on_19 : decode cX9_on 19 = .ok (.iaload, 1) := by decide +kernel
theorem dX9_on_20 : decode cX9_on 20 = .ok (.goto 5, 3) := by decide +kernel
theorem dX9_on_23 : decode cX9_on 23 = .ok (.bipush (-9), 2) := by decide +kernel
theorem dX9_on_25 : decode cX9_on 25 = .ok (.ireturn, 1) := by decide +kernel
theorem dX9_mark_0 : decode cX9_mark 0 = .ok (.aload_n 0, 1) := by decide +kernel
theorem dX9_mark_1 : decode cX9_mark 1 = .ok (.iload_n 2, 1) := by decide +kernel
theorem dX9_mark_2 : decode cX9_mark 2 = .ok (.iconst 1, 1) := by decide +kernel
theorem dX9_mark_3 : decode cX9_mark 3 = .ok (.iconst 2, 1) := by decide +kernel
theorem dX9_mark_4 : decode cX9_mark 4 = .ok (.invokestatic 122, 3) := by decide +kernel
theorem dX9_mark_7 : decode cX9_mark 7 = .ok (.iload_n 1, 1) := by decide +kernel
theorem dX9_mark_8 : decode cX9_mark 8 = .ok (.invokevirtual 150, 3) := by decide +kernel
theorem dX9_mark_11 : decode cX9_mark 11 = .ok (.istore_n 3, 1) := by decide +kernel
theorem dX9_mark_12 : decode cX9_mark 12 = .ok (.iload_n 3, 1) := by decide +kernel
theorem dX9_mark_13 : decode cX9_mark 13 = .ok (.ifCond .ge 7, 3) := by decide +kernel
theorem dX9_mark_16 : decode cX9_mark 16 = .ok (.iload_n 3, 1) := by decide +kernel
theorem dX9_mark_17 : decode cX9_mark 17 = .ok (.goto 27, 3) := by decide +kernel
theorem dX9_mark_20 : decode cX9_mark 20 = .ok (.aload_n 0, 1) := by decide +kernel
theorem dX9_mark_21 : decode cX9_mark 21 = .ok (.getfield 13, 3) := by decide +kernel
theorem dX9_mark_24 : decode cX9_mark 24 = .ok (.iload_n 1, 1) := by decide +kernel
theorem dX9_mark_25 : decode cX9_mark 25 = .ok (.iaload, 1) := by decide +kernel
theorem dX9_mark_26 : decode cX9_mark 26 = .ok (.iload_n 2, 1) := by decide +kernel
theorem dX9_mark_27 : decode cX9_mark 27 = .ok (.if_icmp .ne 12, 3) := by decide +kernel
theorem dX9_mark_30 : decode cX9_mark 30 = .ok (.aload_n 0, 1) := by decide +kernel
theorem dX9_mark_31 : decode cX9_mark 31 = .ok (.getfield 38, 3) := by decide +kernel
theorem dX9_mark_34 : decode cX9_mark 34 = .ok (.iload_n 1, 1) := by decide +kernel
theorem dX9_mark_35 : decode cX9_mark 35 = .ok (.iaload, 1) := by decide +kernel
theorem dX9_mark_36 : decode cX9_mark 36 = .ok (.goto 8, 3) := by decide +kernel
theorem dX9_mark_39 : decode cX9_mark 39 = .ok (.aload_n 0, 1) := by decide +kernel
theorem dX9_mark_40 : decode cX9_mark 40 = .ok (.iconst 3, 1) := by decide +kernel
theorem dX9_mark_41 : decode cX9_mark 41 = .ok (.invokevirtual 143, 3) := by decide +kernel
theorem dX9_mark_44 : decode cX9_mark 44 = .ok (.ireturn, 1) := by decide +kernel
theorem dX9_mean_0 : decode cX9_mean 0 = .ok (.iload_n 1, 1) := by decide +kernel
theorem dX9_mean_1 : decode cX9_mean 1 = .ok (.iconst 0, 1) := by decide +kernel
theorem dX9_mean_2 : decode cX9_mean 2 = .ok (.bipush 7, 2) := by decide +kernel
theorem dX9_mean_4 : decode cX9_mean 4 = .ok (.invokestatic 122, 3) := by decide +kernel
theorem dX9_mean_7 : decode cX9_mean 7 = .ok (.ifCond .ne 5, 3) := by decide +kernel
theorem dX9_mean_10 : decode cX9_mean 10 = .ok (.iconst (-1), 1) := by decide +kernel
theorem dX9_mean_11 : decode cX9_mean 11 = .ok (.ireturn, 1) := by decide +kernel
theorem dX9_mean_12 : decode cX9_mean 12 = .ok (.iconst 0, 1) := by decide +kernel
theorem dX9_mean_13 : decode cX9_mean 13 = .ok (.istore_n 2, 1) := by decide +kernel
theorem dX9_mean_14 : decode cX9_mean 14 = .ok (.iconst 0, 1) := by decide +kernel
theorem dX9_mean_15 : decode cX9_mean 15 = .ok (.istore_n 3, 1) := by decide +kernel
theorem dX9_mean_16 : decode cX9_mean 16 = .ok (.iconst 0, 1) := by decide +kernel
theorem dX9_mean_17 : decode cX9_mean 17 = .ok (.istore 4, 2) := by decide +kernel
theorem dX9_mean_19 : decode cX9_mean 19 = .ok (.iload 4, 2) := by decide +kernel
theorem dX9_mean_21 : decode cX9_mean 21 = .ok (.aload_n 0, 1) := by decide +kernel
theorem dX9_mean_22 : decode cX9_mean 22 = .ok (.getfield 129, 3) := by decide +kernel
theorem dX9_mean_25 : decode cX9_mean 25 = .ok (.if_icmp .ge 69, 3) := by decide +kernel
theorem dX9_mean_28 : decode cX9_mean 28 = .ok (.aload_n 0, 1) := by decide +kernel
theorem dX9_mean_29 : decode cX9_mean 29 = .ok (.getfield 22, 3) := by decide +kernel
theorem dX9_mean_32 : decode cX9_mean 32 = .ok (.iload 4, 2) := by decide +kernel
theorem dX9_mean_34 : decode cX9_mean 34 = .ok (.baload, 1) := by decide +kernel
theorem dX9_mean_35 : decode cX9_mean 35 = .ok (.ifCond .ne 18, 3) := by decide +kernel
theorem dX9_mean_38 : decode cX9_mean 38 = .ok (.aload_n 0, 1) := by decide +kernel
theorem dX9_mean_39 : decode cX9_mean 39 = .ok (.getfield 16, 3) := by decide +kernel
theorem dX9_mean_42 : decode cX9_mean 42 = .ok (.iload 4, 2) := by decide +kernel
theorem dX9_mean_44 : decode cX9_mean 44 = .ok (.iaload, 1) := by decide +kernel
theorem dX9_mean_45 : decode cX9_mean 45 = .ok (.iload_n 1, 1) := by decide +kernel
theorem dX9_mean_46 : decode cX9_mean 46 = .ok (.if_icmp .ne 7, 3) := by decide +kernel
theorem dX9_mean_49 : decode cX9_mean 49 = .ok (.iconst 1, 1) := by decide +kernel
theorem dX9_mean_50 : decode cX9_mean 50 = .ok (.goto 4, 3) := by decide +kernel
theorem dX9_mean_53 : decode cX9_mean 53 = .ok (.iconst 0, 1) := by decide +kernel
theorem dX9_mean_54 : decode cX9_mean 54 = .ok (.istore 5, 2) := by decide +kernel
theorem dX9_mean_56 : decode cX9_mean 56 = .ok (.iload_n 2, 1) := by decide +kernel
theorem dX9_mean_57 : decode cX9_mean 57 = .ok (.iload 5, 2) := by decide +kernel
theorem dX9_mean_59 : decode cX9_mean 59 = .ok (.ifCond .eq 13, 3) := by decide +kernel
theorem dX9_mean_62 : decode cX9_mean 62 = .ok (.aload_n 0, 1) := by decide +kernel
theorem dX9_mean_63 : decode cX9_mean 63 = .ok (.getfield 29, 3) := by decide +kernel
theorem dX9_mean_66 : decode cX9_mean 66 = .ok (.iload 4, 2) := by decide +kernel
theorem dX9_mean_68 : decode cX9_mean 68 = .ok (.iaload, 1) := by decide +kernel
theorem dX9_mean_69 : decode cX9_mean 69 = .ok (.goto 4, 3) := by decide +kernel
theorem dX9_mean_72 : decode cX9_mean 72 = .ok (.iconst 0, 1) := by decide +kernel
theorem dX9_mean_73 : decode cX9_mean 73 = .ok (.iadd, 1) := by decide +kernel
theorem dX9_mean_74 : decode cX9_mean 74 = .ok (.istore_n 2, 1) := by decide +kernel
theorem dX9_mean_75 : decode cX9_mean 75 = .ok (.iload_n 3, 1) := by decide +kernel
theorem dX9_mean_76 : decode cX9_mean 76 = .ok (.iload 5, 2) := by decide +kernel
theorem dX9_mean_78 : decode cX9_mean 78 = .ok (.ifCond .eq 7, 3) := by decide +kernel
theorem dX9_mean_81 : decode cX9_mean 81 = .ok (.iconst 1, 1) := by decide +kernel
theorem dX9_mean_82 : decode cX9_mean 82 = .ok (.goto 4, 3) := by decide +kernel
theorem dX9_mean_85 : decode cX9_mean 85 = .ok (.iconst 0, 1) := by decide +kernel
theorem dX9_mean_86 : decode cX9_mean 86 = .ok (.iadd, 1) := by decide +kernel
theorem dX9_mean_87 : decode cX9_mean 87 = .ok (.istore_n 3, 1) := by decide +kernel
theorem dX9_mean_88 : decode cX9_mean 88 = .ok (.iinc 4 1, 3) := by decide +kernel
theorem dX9_mean_91 : decode cX9_mean 91 = .ok (.goto (-72), 3) := by decide +kernel
theorem dX9_mean_94 : decode cX9_mean 94 = .ok (.iload_n 3, 1) := by decide +kernel
theorem dX9_mean_95 : decode cX9_mean 95 = .ok (.ifCond .ne 11, 3) := by decide +kernel
theorem dX9_mean_98 : decode cX9_mean 98 = .ok (.aload_n 0, 1) := by decide +kernel
theorem dX9_mean_99 : decode cX9_mean 99 = .ok (.iconst 4, 1) := by decide +kernel
theorem dX9_mean_100 : decode cX9_mean 100 = .ok (.invokevirtual 143, 3) := by decide +kernel
theorem dX9_mean_103 : decode cX9_mean 103 = .ok (.goto 6, 3) := by decide +kernel
theorem dX9_mean_106 : decode cX9_mean 106 = .ok (.iload_n 2, 1) := by decide +kernel
theorem dX9_mean_107 : decode cX9_mean 107 = .ok (.iload_n 3, 1) := by decide +kernel
theorem dX9_mean_108 : decode cX9_mean 108 = .ok (.idiv, 1) := by decide +kernel
theorem dX9_mean_109 : decode cX9_mean 109 = .ok (.ireturn, 1) := by decide +kernel
theorem dX9_isSheet_0 : decode cX9_isSheet 0 = .ok (.iload_n 0, 1) := by decide +kernel
theorem dX9_isSheet_1 : decode cX9_isSheet 1 = .ok (.iconst 0, 1) := by decide +kernel
theorem dX9_isSheet_2 : decode cX9_isSheet 2 = .ok (.iconst 3, 1) := by decide +kernel
theorem dX9_isSheet_3 : decode cX9_isSheet 3 = .ok (.invokestatic 122, 3) := by decide +kernel
theorem dX9_isSheet_6 : decode cX9_isSheet 6 = .ok (.ireturn, 1) := by decide +kernel
theorem dX9_sheet_0 : decode cX9_sheet 0 = .ok (.iload_n 1, 1) := by decide +kernel
theorem dX9_sheet_1 : decode cX9_sheet 1 = .ok (.invokestatic 158, 3) := by decide +kernel
theorem dX9_sheet_4 : decode cX9_sheet 4 = .ok (.ifCond .eq 9, 3) := by decide +kernel
theorem dX9_sheet_7 : decode cX9_sheet 7 = .ok (.iload_n 2, 1) := by decide +kernel
theorem dX9_sheet_8 : decode cX9_sheet 8 = .ok (.bipush 16, 2) := by decide +kernel
theorem dX9_sheet_10 : decode cX9_sheet 10 = .ok (.if_icmp .le 5, 3) := by decide +kernel
theorem dX9_sheet_13 : decode cX9_sheet 13 = .ok (.iconst (-1), 1) := by decide +kernel
theorem dX9_sheet_14 : decode cX9_sheet 14 = .ok (.ireturn, 1) := by decide +kernel
theorem dX9_sheet_15 : decode cX9_sheet 15 = .ok (.iload_n 2, 1) := by decide +kernel
theorem dX9_sheet_16 : decode cX9_sheet 16 = .ok (.ifCond .ge 9, 3) := by decide +kernel
theorem dX9_sheet_19 : decode cX9_sheet 19 = .ok (.aload_n 0, 1) := by decide +kernel
theorem dX9_sheet_20 : decode cX9_sheet 20 = .ok (.iconst 5, 1) := by decide +kernel
theorem dX9_sheet_21 : decode cX9_sheet 21 = .ok (.invokevirtual 143, 3) := by decide +kernel
theorem dX9_sheet_24 : decode cX9_sheet 24 = .ok (.ireturn, 1) := by decide +kernel
theorem dX9_sheet_25 : decode cX9_sheet 25 = .ok (.aload_n 0, 1) := by decide +kernel
theorem dX9_sheet_26 : decode cX9_sheet 26 = .ok (.getfield 44, 3) := by decide +kernel
theorem dX9_sheet_29 : decode cX9_sheet 29 = .ok (.iload_n 1, 1) := by decide +kernel
theorem dX9_sheet_30 : decode cX9_sheet 30 = .ok (.iload_n 2, 1) := by decide +kernel
theorem dX9_sheet_31 : decode cX9_sheet 31 = .ok (.iastore, 1) := by decide +kernel
theorem dX9_sheet_32 : decode cX9_sheet 32 = .ok (.iconst 0, 1) := by decide +kernel
theorem dX9_sheet_33 : decode cX9_sheet 33 = .ok (.istore_n 3, 1) := by decide +kernel
theorem dX9_sheet_34 : decode cX9_sheet 34 = .ok (.iload_n 3, 1) := by decide +kernel
theorem dX9_sheet_35 : decode cX9_sheet 35 = .ok (.bipush 16, 2) := by decide +kernel
theorem dX9_sheet_37 : decode cX9_sheet 37 = .ok (.if_icmp .ge 21, 3) := by decide +kernel
theorem dX9_sheet_40 : decode cX9_sheet 40 = .ok (.aload_n 0, 1) := by decide +kernel
theorem dX9_sheet_41 : decode cX9_sheet 41 = .ok (.getfield 47, 3) := by decide +kernel
theorem dX9_sheet_44 : decode cX9_sheet 44 = .ok (.bipush 16, 2) := by decide +kernel
theorem dX9_sheet_46 : decode cX9_sheet 46 = .ok (.iload_n 1, 1) := by decide +kernel
theorem dX9_sheet_47 : decode cX9_sheet 47 = .ok (.imul, 1) := by decide +kernel
theorem dX9_sheet_48 : decode cX9_sheet 48 = .ok (.iload_n 3, 1) := by decide +kernel
theorem dX9_sheet_49 : decode cX9_sheet 49 = .ok (.iadd, 1) := by decide +kernel
theorem dX9_sheet_50 : decode cX9_sheet 50 = .ok (.iconst 0, 1) := by decide +kernel
theorem dX9_sheet_51 : decode cX9_sheet 51 = .ok (.bastore, 1) := by decide +kernel
theorem dX9_sheet_52 : decode cX9_sheet 52 = .ok (.iinc 3 1, 3) := by decide +kernel
theorem dX9_sheet_55 : decode cX9_sheet 55 = .ok (.goto (-21), 3) := by decide +kernel
theorem dX9_sheet_58 : decode cX9_sheet 58 = .ok (.iload_n 2, 1) := by decide +kernel
theorem dX9_sheet_59 : decode cX9_sheet 59 = .ok (.ireturn, 1) := by decide +kernel
theorem dX9_lay_0 : decode cX9_lay 0 = .ok (.iload_n 1, 1) := by decide +kernel
theorem dX9_lay_1 : decode cX9_lay 1 = .ok (.invokestatic 158, 3) := by decide +kernel
theorem dX9_lay_4 : decode cX9_lay 4 = .ok (.ifCond .ne 5, 3) := by decide +kernel
theorem dX9_lay_7 : decode cX9_lay 7 = .ok (.iconst (-1), 1) := by decide +kernel
theorem dX9_lay_8 : decode cX9_lay 8 = .ok (.ireturn, 1) := by decide +kernel
theorem dX9_lay_9 : decode cX9_lay 9 = .ok (.aload_n 0, 1) := by decide +kernel
theorem dX9_lay_10 : decode cX9_lay 10 = .ok (.getfield 44, 3) := by decide +kernel
theorem dX9_lay_13 : decode cX9_lay 13 = .ok (.iload_n 1, 1) := by decide +kernel
theorem dX9_lay_14 : decode cX9_lay 14 = .ok (.iaload, 1) := by decide +kernel
theorem dX9_lay_15 : decode cX9_lay 15 = .ok (.ifCond .ge 9, 3) := by decide +kernel
theorem dX9_lay_18 : decode cX9_lay 18 = .ok (.aload_n 0, 1) := by decide +kernel
theorem dX9_lay_19 : decode cX9_lay 19 = .ok (.iconst 1, 1) := by decide +kernel
theorem dX9_lay_20 : decode cX9_lay 20 = .ok (.invokevirtual 143, 3) := by decide +kernel
theorem dX9_lay_23 : decode cX9_lay 23 = .ok (.ireturn, 1) := by decide +kernel
theorem dX9_lay_24 : decode cX9_lay 24 = .ok (.iload_n 2, 1) := by decide +kernel
theorem dX9_lay_25 : decode cX9_lay 25 = .ok (.iconst 0, 1) := by decide +kernel
theorem dX9_lay_26 : decode cX9_lay 26 = .ok (.aload_n 0, 1) := by decide +kernel
theorem dX9_lay_27 : decode cX9_lay 27 = .ok (.getfield 44, 3) := by decide +kernel
theorem dX9_lay_30 : decode cX9_lay 30 = .ok (.iload_n 1, 1) := by decide +kernel
theorem dX9_lay_31 : decode cX9_lay 31 = .ok (.iaload, 1) := by decide +kernel
theorem dX9_lay_32 : decode cX9_lay 32 = .ok (.iconst 1, 1) := by decide +kernel
theorem dX9_lay_33 : decode cX9_lay 33 = .ok (.isub, 1) := by decide +kernel
theorem dX9_lay_34 : decode cX9_lay 34 = .ok (.invokestatic 122, 3) := by decide +kernel
theorem dX9_lay_37 : decode cX9_lay 37 = .ok (.ifCond .ne 9, 3) := by decide +kernel
theorem dX9_lay_40 : decode cX9_lay 40 = .ok (.aload_n 0, 1) := by decide +kernel
theorem dX9_lay_41 : decode cX9_lay 41 = .ok (.iconst 2, 1) := by decide +kernel
theorem dX9_lay_42 : decode cX9_lay 42 = .ok (.invokevirtual 143, 3) := by decide +kernel
theorem dX9_lay_45 : decode cX9_lay 45 = .ok (.ireturn, 1) := by decide +kernel
theorem dX9_lay_46 : decode cX9_lay 46 = .ok (.aload_n 0, 1) := by decide +kernel
theorem dX9_lay_47 : decode cX9_lay 47 = .ok (.getfield 47, 3) := by decide +kernel
theorem dX9_lay_50 : decode cX9_lay 50 = .ok (.bipush 16, 2) := by decide +kernel
theorem dX9_lay_52 : decode cX9_lay 52 = .ok (.iload_n 1, 1) := by decide +kernel
theorem dX9_lay_53 : decode cX9_lay 53 = .ok (.imul, 1) := by decide +kernel
theorem dX9_lay_54 : decode cX9_lay 54 = .ok (.iload_n 2, 1) := by decide +kernel
theorem dX9_lay_55 : decode cX9_lay 55 = .ok (.iadd, 1) := by decide +kernel
theorem dX9_lay_56 : decode cX9_lay 56 = .ok (.baload, 1) := by decide +kernel
theorem dX9_lay_57 : decode cX9_lay 57 = .ok (.istore 4, 2) := by decide +kernel
theorem dX9_lay_59 : decode cX9_lay 59 = .ok (.aload_n 0, 1) := by decide +kernel
theorem dX9_lay_60 : decode cX9_lay 60 = .ok (.getfield 47, 3) := by decide +kernel
theorem dX9_lay_63 : decode cX9_lay 63 = .ok (.bipush 16, 2) := by decide +kernel
theorem dX9_lay_65 : decode cX9_lay 65 = .ok (.iload_n 1, 1) := by decide +kernel
theorem dX9_lay_66 : decode cX9_lay 66 = .ok (.imul, 1) := by decide +kernel
theorem dX9_lay_67 : decode cX9_lay 67 = .ok (.iload_n 2, 1) := by decide +kernel
theorem dX9_lay_68 : decode cX9_lay 68 = .ok (.iadd, 1) := by decide +kernel
theorem dX9_lay_69 : decode cX9_lay 69 = .ok (.iload_n 3, 1) := by decide +kernel
theorem dX9_lay_70 : decode cX9_lay 70 = .ok (.i2b, 1) := by decide +kernel
theorem dX9_lay_71 : decode cX9_lay 71 = .ok (.bastore, 1) := by decide +kernel
theorem dX9_lay_72 : decode cX9_lay 72 = .ok (.sipush 1000, 3) := by decide +kernel
theorem dX9_lay_75 : decode cX9_lay 75 = .ok (.iload 4, 2) := by decide +kernel
theorem dX9_lay_77 : decode cX9_lay 77 = .ok (.iadd, 1) := by decide +kernel
theorem dX9_lay_78 : decode cX9_lay 78 = .ok (.ireturn, 1) := by decide +kernel
theorem dX9_tear_0 : decode cX9_tear 0 = .ok (.iload_n 1, 1) := by decide +kernel
theorem dX9_tear_1 : decode cX9_tear 1 = .ok (.invokestatic 158, 3) := by decide +kernel
theorem dX9_tear_4 : decode cX9_tear 4 = .ok (.ifCond .ne 5, 3) := by decide +kernel
theorem dX9_tear_7 : decode cX9_tear 7 = .ok (.iconst (-1), 1) := by decide +kernel
theorem dX9_tear_8 : decode cX9_tear 8 = .ok (.ireturn, 1) := by decide +kernel
theorem dX9_tear_9 : decode cX9_tear 9 = .ok (.aload_n 0, 1) := by decide +kernel
theorem dX9_tear_10 : decode cX9_tear 10 = .ok (.getfield 44, 3) := by decide +kernel
theorem dX9_tear_13 : decode cX9_tear 13 = .ok (.iload_n 1, 1) := by decide +kernel
theorem dX9_tear_14 : decode cX9_tear 14 = .ok (.iaload, 1) := by decide +kernel
theorem dX9_tear_15 : decode cX9_tear 15 = .ok (.ifCond .ge 9, 3) := by decide +kernel
theorem dX9_tear_18 : decode cX9_tear 18 = .ok (.aload_n 0, 1) := by decide +kernel
theorem dX9_tear_19 : decode cX9_tear 19 = .ok (.iconst 1, 1) := by decide +kernel
theorem dX9_tear_20 : decode cX9_tear 20 = .ok (.invokevirtual 143, 3) := by decide +kernel
theorem dX9_tear_23 : decode cX9_tear 23 = .ok (.ireturn, 1) := by decide +kernel
theorem dX9_tear_24 : decode cX9_tear 24 = .ok (.aload_n 0, 1) := by decide +kernel
theorem dX9_tear_25 : decode cX9_tear 25 = .ok (.getfield 44, 3) := by decide +kernel
theorem dX9_tear_28 : decode cX9_tear 28 = .ok (.iload_n 1, 1) := by decide +kernel
theorem dX9_tear_29 : decode cX9_tear 29 = .ok (.iconst (-1), 1) := by decide +kernel
theorem dX9_tear_30 : decode cX9_tear 30 = .ok (.iastore, 1) := by decide +kernel
theorem dX9_tear_31 : decode cX9_tear 31 = .ok (.iconst 1, 1) := by decide +kernel
theorem dX9_tear_32 : decode cX9_tear 32 = .ok (.ireturn, 1) := by decide +kernel
theorem dX9_copy_0 : decode cX9_copy 0 = .ok (.iload_n 1, 1) := by decide +kernel
theorem dX9_copy_1 : decode cX9_copy 1 = .ok (.invokestatic 158, 3) := by decide +kernel
theorem dX9_copy_4 : decode cX9_copy 4 = .ok (.ifCond .eq 10, 3) := by decide +kernel
theorem dX9_copy_7 : decode cX9_copy 7 = .ok (.iload_n 3, 1) := by decide +kernel
theorem dX9_copy_8 : decode cX9_copy 8 = .ok (.invokestatic 158, 3) := by decide +kernel
theorem dX9_copy_11 : decode cX9_copy 11 = .ok (.ifCond .ne 5, 3) := by decide +kernel
theorem dX9_copy_14 : decode cX9_copy 14 = .ok (.iconst (-1), 1) := by decide +kernel
theorem dX9_copy_15 : decode cX9_copy 15 = .ok (.ireturn, 1) := by decide +kernel
theorem dX9_copy_16 : decode cX9_copy 16 = .ok (.aload_n 0, 1) := by decide +kernel
theorem dX9_copy_17 : decode cX9_copy 17 = .ok (.getfield 44, 3) := by decide +kernel
theorem dX9_copy_20 : decode cX9_copy 20 = .ok (.iload_n 1, 1) := by decide +kernel
theorem dX9_copy_21 : decode cX9_copy 21 = .ok (.iaload, 1) := by decide +kernel
theorem dX9_copy_22 : decode cX9_copy 22 = .ok (.ifCond .lt 12, 3) := by decide +kernel
theorem dX9_copy_25 : decode cX9_copy 25 = .ok (.aload_n 0, 1) := by decide +kernel
theorem dX9_copy_26 : decode cX9_copy 26 = .ok (.getfield 44, 3) := by decide +kernel
theorem dX9_copy_29 : decode cX9_copy 29 = .ok (.iload_n 3, 1) := by decide +kernel
theorem dX9_copy_30 : decode cX9_copy 30 = .ok (.iaload, 1) := by decide +kernel
theorem dX9_copy_31 : decode cX9_copy 31 = .ok (.ifCond .ge 9, 3) := by decide +kernel
theorem dX9_copy_34 : decode cX9_copy 34 = .ok (.aload_n 0, 1) := by decide +kernel
theorem dX9_copy_35 : decode cX9_copy 35 = .ok (.iconst 1, 1) := by decide +kernel
theorem dX9_copy_36 : decode cX9_copy 36 = .ok (.invokevirtual 143, 3) := by decide +kernel
theorem dX9_copy_39 : decode cX9_copy 39 = .ok (.ireturn, 1) := by decide +kernel
theorem dX9_copy_40 : decode cX9_copy 40 = .ok (.iload_n 2, 1) := by decide +kernel
theorem dX9_copy_41 : decode cX9_copy 41 = .ok (.ifCond .lt 48, 3) := by decide +kernel
theorem dX9_copy_44 : decode cX9_copy 44 = .ok (.iload 4, 2) := by decide +kernel
theorem dX9_copy_46 : decode cX9_copy 46 = .ok (.ifCond .lt 43, 3) := by decide +kernel
theorem dX9_copy_49 : decode cX9_copy 49 = .ok (.iload 5, 2) := by decide +kernel
theorem dX9_copy_51 : decode cX9_copy 51 = .ok (.ifCond .lt 38, 3) := by decide +kernel
theorem dX9_copy_54 : decode cX9_copy 54 = .ok (.iload_n 2, 1) := by decide +kernel
theorem dX9_copy_55 : decode cX9_copy 55 = .ok (.i2l, 1) := by decide +kernel
theorem dX9_copy_56 : decode cX9_copy 56 = .ok (.iload 5, 2) := by decide +kernel
theorem dX9_copy_58 : decode cX9_copy 58 = .ok (.i2l, 1) := by decide +kernel
theorem dX9_copy_59 : decode cX9_copy 59 = .ok (.ladd, 1) := by decide +kernel
theorem dX9_copy_60 : decode cX9_copy 60 = .ok (.aload_n 0, 1) := by decide +kernel
theorem dX9_copy_61 : decode cX9_copy 61 = .ok (.getfield 44, 3) := by decide +kernel
theorem dX9_copy_64 : decode cX9_copy 64 = .ok (.iload_n 1, 1) := by decide +kernel
theorem dX9_copy_65 : decode cX9_copy 65 = .ok (.iaload, 1) := by decide +kernel
theorem dX9_copy_66 : decode cX9_copy 66 = .ok (.i2l, 1) := by decide +kernel
theorem dX9_copy_67 : decode cX9_copy 67 = .ok (.lcmp, 1) := by decide +kernel
theorem dX9_copy_68 : decode cX9_copy 68 = .ok (.ifCond .gt 21, 3) := by decide +kernel
theorem dX9_copy_71 : decode cX9_copy 71 = .ok (.iload 4, 2) := by decide +kernel
theorem dX9_copy_73 : decode cX9_copy 73 = .ok (.i2l, 1) := by decide +kernel
theorem dX9_copy_74 : decode cX9_copy 74 = .ok (.iload 5, 2) := by decide +kernel
theorem dX9_copy_76 : decode cX9_copy 76 = .ok (.i2l, 1) := by decide +kernel
theorem dX9_copy_77 : decode cX9_copy 77 = .ok (.ladd, 1) := by decide +kernel
theorem dX9_copy_78 : decode cX9_copy 78 = .ok (.aload_n 0, 1) := by decide +kernel
theorem dX9_copy_79 : decode cX9_copy 79 = .ok (.getfield 44, 3) := by decide +kernel
theorem dX9_copy_82 : decode cX9_copy 82 = .ok (.iload_n 3, 1) := by decide +kernel
theorem dX9_copy_83 : decode cX9_copy 83 = .ok (.iaload, 1) := by decide +kernel
theorem dX9_copy_84 : decode cX9_copy 84 = .ok (.i2l, 1) := by decide +kernel
theorem dX9_copy_85 : decode cX9_copy 85 = .ok (.lcmp, 1) := by decide +kernel
theorem dX9_copy_86 : decode cX9_copy 86 = .ok (.ifCond .le 9, 3) := by decide +kernel
theorem dX9_copy_89 : decode cX9_copy 89 = .ok (.aload_n 0, 1) := by decide +kernel
theorem dX9_copy_90 : decode cX9_copy 90 = .ok (.iconst 2, 1) := by decide +kernel
theorem dX9_copy_91 : decode cX9_copy 91 = .ok (.invokevirtual 143, 3) := by decide +kernel
theorem dX9_copy_94 : decode cX9_copy 94 = .ok (.ireturn, 1) := by decide +kernel
theorem dX9_copy_95 : decode cX9_copy 95 = .ok (.iconst 0, 1) := by decide +kernel
theorem dX9_copy_96 : decode cX9_copy 96 = .ok (.istore 6, 2) := by decide +kernel
theorem dX9_copy_98 : decode cX9_copy 98 = .ok (.iload 6, 2) := by decide +kernel
theorem dX9_copy_100 : decode cX9_copy 100 = .ok (.iload 5, 2) := by decide +kernel
theorem dX9_copy_102 : decode cX9_copy 102 = .ok (.if_icmp .ge 30, 3) := by decide +kernel
theorem dX9_copy_105 : decode cX9_copy 105 = .ok (.aload_n 0, 1) := by decide +kernel
theorem dX9_copy_106 : decode cX9_copy 106 = .ok (.getfield 51, 3) := by decide +kernel
theorem dX9_copy_109 : decode cX9_copy 109 = .ok (.iload 6, 2) := by decide +kernel
theorem dX9_copy_111 : decode cX9_copy 111 = .ok (.aload_n 0, 1) := by decide +kernel
theorem dX9_copy_112 : decode cX9_copy 112 = .ok (.getfield 47, 3) := by decide +kernel
theorem dX9_copy_115 : decode cX9_copy 115 = .ok (.bipush 16, 2) := by decide +kernel
theorem dX9_copy_117 : decode cX9_copy 117 = .ok (.iload_n 1, 1) := by decide +kernel
theorem dX9_copy_118 : decode cX9_copy 118 = .ok (.imul, 1) := by decide +kernel
theorem dX9_copy_119 : decode cX9_copy 119 = .ok (.iload_n 2, 1) := by decide +kernel
theorem dX9_copy_120 : decode cX9_copy 120 = .ok (.iadd, 1) := by decide +kernel
theorem dX9_copy_121 : decode cX9_copy 121 = .ok (.iload 6, 2) := by decide +kernel
theorem dX9_copy_123 : decode cX9_copy 123 = .ok (.iadd, 1) := by decide +kernel
theorem dX9_copy_124 : decode cX9_copy 124 = .ok (.baload, 1) := by decide +kernel
theorem dX9_copy_125 : decode cX9_copy 125 = .ok (.bastore, 1) := by decide +kernel
theorem dX9_copy_126 : decode cX9_copy 126 = .ok (.iinc 6 1, 3) := by decide +kernel
theorem dX9_copy_129 : decode cX9_copy 129 = .ok (.goto (-31), 3) := by decide +kernel
theorem dX9_copy_132 : decode cX9_copy 132 = .ok (.iconst 0, 1) := by decide +kernel
theorem dX9_copy_133 : decode cX9_copy 133 = .ok (.istore 6, 2) := by decide +kernel
theorem dX9_copy_135 : decode cX9_copy 135 = .ok (.iload 6, 2) := by decide +kernel
theorem dX9_copy_137 : decode cX9_copy 137 = .ok (.iload 5, 2) := by decide +kernel
theorem dX9_copy_139 : decode cX9_copy 139 = .ok (.if_icmp .ge 31, 3) := by decide +kernel
theorem dX9_copy_142 : decode cX9_copy 142 = .ok (.aload_n 0, 1) := by decide +kernel
theorem dX9_copy_143 : decode cX9_copy 143 = .ok (.getfield 47, 3) := by decide +kernel
theorem dX9_copy_146 : decode cX9_copy 146 = .ok (.bipush 16, 2) := by decide +kernel
theorem dX9_copy_148 : decode cX9_copy 148 = .ok (.iload_n 3, 1) := by decide +kernel
theorem dX9_copy_149 : decode cX9_copy 149 = .ok (.imul, 1) := by decide +kernel
theorem dX9_copy_150 : decode cX9_copy 150 = .ok (.iload 4, 2) := by decide +kernel
theorem dX9_copy_152 : decode cX9_copy 152 = .ok (.iadd, 1) := by decide +kernel
theorem dX9_copy_153 : decode cX9_copy 153 = .ok (.iload 6, 2) := by decide +kernel
theorem dX9_copy_155 : decode cX9_copy 155 = .ok (.iadd, 1) := by decide +kernel
theorem dX9_copy_156 : decode cX9_copy 156 = .ok (.aload_n 0, 1) := by decide +kernel
theorem dX9_copy_157 : decode cX9_copy 157 = .ok (.getfield 51, 3) := by decide +kernel
theorem dX9_copy_160 : decode cX9_copy 160 = .ok (.iload 6, 2) := by decide +kernel
theorem dX9_copy_162 : decode cX9_copy 162 = .ok (.baload, 1) := by decide +kernel
theorem dX9_copy_163 : decode cX9_copy 163 = .ok (.bastore, 1) := by decide +kernel
theorem dX9_copy_164 : decode cX9_copy 164 = .ok (.iinc 6 1, 3) := by decide +kernel
theorem dX9_copy_167 : decode cX9_copy 167 = .ok (.goto (-32), 3) := by decide +kernel
theorem dX9_copy_170 : decode cX9_copy 170 = .ok (.iconst 1, 1) := by decide +kernel
theorem dX9_copy_171 : decode cX9_copy 171 = .ok (.ireturn, 1) := by decide +kernel
theorem dX9_prices_0 : decode cX9_prices 0 = .ok (.iload_n 1, 1) := by decide +kernel
theorem dX9_prices_1 : decode cX9_prices 1 = .ok (.bipush (-9), 2) := by decide +kernel
theorem dX9_prices_3 : decode cX9_prices 3 = .ok (.if_icmp .eq 12, 3) := by decide +kernel
theorem dX9_prices_6 : decode cX9_prices 6 = .ok (.iload_n 1, 1) := by decide +kernel
theorem dX9_prices_7 : decode cX9_prices 7 = .ok (.invokestatic 158, 3) := by decide +kernel
theorem dX9_prices_10 : decode cX9_prices 10 = .ok (.ifCond .ne 5, 3) := by decide +kernel
theorem dX9_prices_13 : decode cX9_prices 13 = .ok (.iconst (-1), 1) := by decide +kernel
theorem dX9_prices_14 : decode cX9_prices 14 = .ok (.ireturn, 1) := by decide +kernel
theorem dX9_prices_15 : decode cX9_prices 15 = .ok (.iload_n 1, 1) := by decide +kernel
theorem dX9_prices_16 : decode cX9_prices 16 = .ok (.bipush (-9), 2) := by decide +kernel
theorem dX9_prices_18 : decode cX9_prices 18 = .ok (.if_icmp .eq 18, 3) := by decide +kernel
theorem dX9_prices_21 : decode cX9_prices 21 = .ok (.aload_n 0, 1) := by decide +kernel
theorem dX9_prices_22 : decode cX9_prices 22 = .ok (.getfield 44, 3) := by decide +kernel
theorem dX9_prices_25 : decode cX9_prices 25 = .ok (.iload_n 1, 1) := by decide +kernel
theorem dX9_prices_26 : decode cX9_prices 26 = .ok (.iaload, 1) := by decide +kernel
theorem dX9_prices_27 : decode cX9_prices 27 = .ok (.ifCond .ge 9, 3) := by decide +kernel
theorem dX9_prices_30 : decode cX9_prices 30 = .ok (.aload_n 0, 1) := by decide +kernel
theorem dX9_prices_31 : decode cX9_prices 31 = .ok (.iconst 1, 1) := by decide +kernel
theorem dX9_prices_32 : decode cX9_prices 32 = .ok (.invokevirtual 143, 3) := by decide +kernel
theorem dX9_prices_35 : decode cX9_prices 35 = .ok (.ireturn, 1) := by decide +kernel
theorem dX9_prices_36 : decode cX9_prices 36 = .ok (.aload_n 0, 1) := by decide +kernel
theorem dX9_prices_37 : decode cX9_prices 37 = .ok (.getfield 112, 3) := by decide +kernel
theorem dX9_prices_40 : decode cX9_prices 40 = .ok (.istore_n 2, 1) := by decide +kernel
theorem dX9_prices_41 : decode cX9_prices 41 = .ok (.aload_n 0, 1) := by decide +kernel
theorem dX9_prices_42 : decode cX9_prices 42 = .ok (.iload_n 1, 1) := by decide +kernel
theorem dX9_prices_43 : decode cX9_prices 43 = .ok (.putfield 112, 3) := by decide +kernel
theorem dX9_prices_46 : decode cX9_prices 46 = .ok (.iload_n 2, 1) := by decide +kernel
theorem dX9_prices_47 : decode cX9_prices 47 = .ok (.ireturn, 1) := by decide +kernel
theorem dX9_priceOf_0 : decode cX9_priceOf 0 = .ok (.aload_n 0, 1) := by decide +kernel
theorem dX9_priceOf_1 : decode cX9_priceOf 1 = .ok (.getfield 112, 3) := by decide +kernel
theorem dX9_priceOf_4 : decode cX9_priceOf 4 = .ok (.bipush (-9), 2) := by decide +kernel
theorem dX9_priceOf_6 : decode cX9_priceOf 6 = .ok (.if_icmp .eq 15, 3) := by decide +kernel
theorem dX9_priceOf_9 : decode cX9_priceOf 9 = .ok (.aload_n 0, 1) := by decide +kernel
theorem dX9_priceOf_10 : decode cX9_priceOf 10 = .ok (.getfield 44, 3) := by decide +kernel
theorem dX9_priceOf_13 : decode cX9_priceOf 13 = .ok (.aload_n 0, 1) := by decide +kernel
theorem dX9_priceOf_14 : decode cX9_priceOf 14 = .ok (.getfield 112, 3) := by decide +kernel
theorem dX9_priceOf_17 : decode cX9_priceOf 17 = .ok (.iaload, 1) := by decide +kernel
theorem dX9_priceOf_18 : decode cX9_priceOf 18 = .ok (.ifCond .ge 9, 3) := by decide +kernel
theorem dX9_priceOf_21 : decode cX9_priceOf 21 = .ok (.iconst 4, 1) := by decide +kernel
theorem dX9_priceOf_22 : decode cX9_priceOf 22 = .ok (.iload_n 1, 1) := by decide +kernel
theorem dX9_priceOf_23 : decode cX9_priceOf 23 = .ok (.imul, 1) := by decide +kernel
theorem dX9_priceOf_24 : decode cX9_priceOf 24 = .ok (.iload_n 1, 1) := by decide +kernel
theorem dX9_priceOf_25 : decode cX9_priceOf 25 = .ok (.imul, 1) := by decide +kernel
theorem dX9_priceOf_26 : decode cX9_priceOf 26 = .ok (.ireturn, 1) := by decide +kernel
theorem dX9_priceOf_27 : decode cX9_priceOf 27 = .ok (.aload_n 0, 1) := by decide +kernel
theorem dX9_priceOf_28 : decode cX9_priceOf 28 = .ok (.getfield 44, 3) := by decide +kernel
theorem dX9_priceOf_31 : decode cX9_priceOf 31 = .ok (.aload_n 0, 1) := by decide +kernel
theorem dX9_priceOf_32 : decode cX9_priceOf 32 = .ok (.getfield 112, 3) := by decide +kernel
theorem dX9_priceOf_35 : decode cX9_priceOf 35 = .ok (.iaload, 1) := by decide +kernel
theorem dX9_priceOf_36 : decode cX9_priceOf 36 = .ok (.istore_n 2, 1) := by decide +kernel
theorem dX9_priceOf_37 : decode cX9_priceOf 37 = .ok (.iload_n 2, 1) := by decide +kernel
theorem dX9_priceOf_38 : decode cX9_priceOf 38 = .ok (.ifCond .ne 5, 3) := by decide +kernel
theorem dX9_priceOf_41 : decode cX9_priceOf 41 = .ok (.iconst 0, 1) := by decide +kernel
theorem dX9_priceOf_42 : decode cX9_priceOf 42 = .ok (.ireturn, 1) := by decide +kernel
theorem dX9_priceOf_43 : decode cX9_priceOf 43 = .ok (.aload_n 0, 1) := by decide +kernel
theorem dX9_priceOf_44 : decode cX9_priceOf 44 = .ok (.getfield 47, 3) := by decide +kernel
theorem dX9_priceOf_47 : decode cX9_priceOf 47 = .ok (.bipush 16, 2) := by decide +kernel
theorem dX9_priceOf_49 : decode cX9_priceOf 49 = .ok (.aload_n 0, 1) := by decide +kernel
theorem dX9_priceOf_50 : decode cX9_priceOf 50 = .ok (.getfield 112, 3) := by decide +kernel
theorem dX9_priceOf_53 : decode cX9_priceOf 53 = .ok (.imul, 1) := by decide +kernel
theorem dX9_priceOf_54 : decode cX9_priceOf 54 = .ok (.iload_n 1, 1) := by decide +kernel
theorem dX9_priceOf_55 : decode cX9_priceOf 55 = .ok (.iload_n 2, 1) := by decide +kernel
theorem dX9_priceOf_56 : decode cX9_priceOf 56 = .ok (.if_icmp .ge 7, 3) := by decide +kernel
theorem dX9_priceOf_59 : decode cX9_priceOf 59 = .ok (.iload_n 1, 1) := by decide +kernel
theorem dX9_priceOf_60 : decode cX9_priceOf 60 = .ok (.goto 6, 3) := by decide +kernel
theorem dX9_priceOf_63 : decode cX9_priceOf 63 = .ok (.iload_n 2, 1) := by decide +kernel
theorem dX9_priceOf_64 : decode cX9_priceOf 64 = .ok (.iconst 1, 1) := by decide +kernel
theorem dX9_priceOf_65 : decode cX9_priceOf 65 = .ok (.isub, 1) := by decide +kernel
theorem dX9_priceOf_66 : decode cX9_priceOf 66 = .ok (.iadd, 1) := by decide +kernel
theorem dX9_priceOf_67 : decode cX9_priceOf 67 = .ok (.baload, 1) := by decide +kernel
theorem dX9_priceOf_68 : decode cX9_priceOf 68 = .ok (.istore_n 3, 1) := by decide +kernel
theorem dX9_priceOf_69 : decode cX9_priceOf 69 = .ok (.iload_n 3, 1) := by decide +kernel
theorem dX9_priceOf_70 : decode cX9_priceOf 70 = .ok (.ifCond .ge 7, 3) := by decide +kernel
theorem dX9_priceOf_73 : decode cX9_priceOf 73 = .ok (.iconst 0, 1) := by decide +kernel
theorem dX9_priceOf_74 : decode cX9_priceOf 74 = .ok (.goto 4, 3) := by decide +kernel
theorem dX9_priceOf_77 : decode cX9_priceOf 77 = .ok (.iload_n 3, 1) := by decide +kernel
theorem dX9_priceOf_78 : decode cX9_priceOf 78 = .ok (.ireturn, 1) := by decide +kernel
theorem dX9_price_0 : decode cX9_price 0 = .ok (.iload_n 1, 1) := by decide +kernel
theorem dX9_price_1 : decode cX9_price 1 = .ok (.iconst 0, 1) := by decide +kernel
theorem dX9_price_2 : decode cX9_price 2 = .ok (.bipush 15, 2) := by decide +kernel
theorem dX9_price_4 : decode cX9_price 4 = .ok (.invokestatic 122, 3) := by decide +kernel
theorem dX9_price_7 : decode cX9_price 7 = .ok (.ifCond .eq 11, 3) := by decide +kernel
theorem dX9_price_10 : decode cX9_price 10 = .ok (.aload_n 0, 1) := by decide +kernel
theorem dX9_price_11 : decode cX9_price 11 = .ok (.iload_n 1, 1) := by decide +kernel
theorem dX9_price_12 : decode cX9_price 12 = .ok (.invokevirtual 161, 3) := by decide +kernel
theorem dX9_price_15 : decode cX9_price 15 = .ok (.goto 4, 3) := by decide +kernel
theorem dX9_price_18 : decode cX9_price 18 = .ok (.iconst (-1), 1) := by decide +kernel
theorem dX9_price_19 : decode cX9_price 19 = .ok (.ireturn, 1) := by decide +kernel
theorem dX9_meet_0 : decode cX9_meet 0 = .ok (.iload_n 1, 1) := by decide +kernel
theorem dX9_meet_1 : decode cX9_meet 1 = .ok (.iconst 1, 1) := by decide +kernel
theorem dX9_meet_2 : decode cX9_meet 2 = .ok (.bipush 15, 2) := by decide +kernel
theorem dX9_meet_4 : decode cX9_meet 4 = .ok (.invokestatic 122, 3) := by decide +kernel
theorem dX9_meet_7 : decode cX9_meet 7 = .ok (.ifCond .ne 5, 3) := by decide +kernel
theorem dX9_meet_10 : decode cX9_meet 10 = .ok (.iconst (-1), 1) := by decide +kernel
theorem dX9_meet_11 : decode cX9_meet 11 = .ok (.ireturn, 1) := by decide +kernel
theorem dX9_meet_12 : decode cX9_meet 12 = .ok (.aload_n 0, 1) := by decide +kernel
theorem dX9_meet_13 : decode cX9_meet 13 = .ok (.getfield 132, 3) := by decide +kernel
theorem dX9_meet_16 : decode cX9_meet 16 = .ok (.ifCond .eq 6, 3) := by decide +kernel
theorem dX9_meet_19 : decode cX9_meet 19 = .ok (.bipush (-4), 2) := by decide +kernel
theorem dX9_meet_21 : decode cX9_meet 21 = .ok (.ireturn, 1) := by decide +kernel
theorem dX9_meet_22 : decode cX9_meet 22 = .ok (.aload_n 0, 1) := by decide +kernel
theorem dX9_meet_23 : decode cX9_meet 23 = .ok (.iconst 1, 1) := by decide +kernel
theorem dX9_meet_24 : decode cX9_meet 24 = .ok (.putfield 132, 3) := by decide +kernel
theorem dX9_meet_27 : decode cX9_meet 27 = .ok (.aload_n 0, 1) := by decide +kernel
theorem dX9_meet_28 : decode cX9_meet 28 = .ok (.iconst 0, 1) := by decide +kernel
theorem dX9_meet_29 : decode cX9_meet 29 = .ok (.putfield 136, 3) := by decide +kernel
theorem dX9_meet_32 : decode cX9_meet 32 = .ok (.aload_n 0, 1) := by decide +kernel
theorem dX9_meet_33 : decode cX9_meet 33 = .ok (.iload_n 1, 1) := by decide +kernel
theorem dX9_meet_34 : decode cX9_meet 34 = .ok (.putfield 164, 3) := by decide +kernel
theorem dX9_meet_37 : decode cX9_meet 37 = .ok (.aload_n 0, 1) := by decide +kernel
theorem dX9_meet_38 : decode cX9_meet 38 = .ok (.iconst 0, 1) := by decide +kernel
theorem dX9_meet_39 : decode cX9_meet 39 = .ok (.putfield 167, 3) := by decide +kernel
theorem dX9_meet_42 : decode cX9_meet 42 = .ok (.aload_n 0, 1) := by decide +kernel
theorem dX9_meet_43 : decode cX9_meet 43 = .ok (.iconst 0, 1) := by decide +kernel
theorem dX9_meet_44 : decode cX9_meet 44 = .ok (.putfield 170, 3) := by decide +kernel
theorem dX9_meet_47 : decode cX9_meet 47 = .ok (.aload_n 0, 1) := by decide +kernel
theorem dX9_meet_48 : decode cX9_meet 48 = .ok (.iconst 0, 1) := by decide +kernel
theorem dX9_meet_49 : decode cX9_meet 49 = .ok (.putfield 173, 3) := by decide +kernel
theorem dX9_meet_52 : decode cX9_meet 52 = .ok (.aload_n 0, 1) := by decide +kernel
theorem dX9_meet_53 : decode cX9_meet 53 = .ok (.iconst 0, 1) := by decide +kernel
theorem dX9_meet_54 : decode cX9_meet 54 = .ok (.putfield 176, 3) := by decide +kernel
theorem dX9_meet_57 : decode cX9_meet 57 = .ok (.iconst 0, 1) := by decide +kernel
theorem dX9_meet_58 : decode cX9_meet 58 = .ok (.istore_n 2, 1) := by decide +kernel
theorem dX9_meet_59 : decode cX9_meet 59 = .ok (.iload_n 2, 1) := by decide +kernel
theorem dX9_meet_60 : decode cX9_meet 60 = .ok (.bipush 16, 2) := by decide +kernel
theorem dX9_meet_62 : decode cX9_meet 62 = .ok (.if_icmp .ge 23, 3) := by decide +kernel
theorem dX9_meet_65 : decode cX9_meet 65 = .ok (.aload_n 0, 1) := by decide +kernel
theorem dX9_meet_66 : decode cX9_meet 66 = .ok (.getfield 29, 3) := by decide +kernel
theorem dX9_meet_69 : decode cX9_meet 69 = .ok (.iload_n 2, 1) := by decide +kernel
theorem dX9_meet_70 : decode cX9_meet 70 = .ok (.iconst 0, 1) := by decide +kernel
theorem dX9_meet_71 : decode cX9_meet 71 = .ok (.iastore, 1) := by decide +kernel
theorem dX9_meet_72 : decode cX9_meet 72 = .ok (.aload_n 0, 1) := by decide +kernel
theorem dX9_meet_73 : decode cX9_meet 73 = .ok (.getfield 32, 3) := by decide +kernel
theorem dX9_meet_76 : decode cX9_meet 76 = .ok (.iload_n 2, 1) := by decide +kernel
theorem dX9_meet_77 : decode cX9_meet 77 = .ok (.iconst 0, 1) := by decide +kernel
theorem dX9_meet_78 : decode cX9_meet 78 = .ok (.iastore, 1) := by decide +kernel
theorem dX9_meet_79 : decode cX9_meet 79 = .ok (.iinc 2 1, 3) := by decide +kernel
theorem dX9_meet_82 : decode cX9_meet 82 = .ok (.goto (-23), 3) := by decide +kernel
theorem dX9_meet_85 : decode cX9_meet 85 = .ok (.aload_n 0, 1) := by decide +kernel
theorem dX9_meet_86 : decode cX9_meet 86 = .ok (.getfield 126, 3) := by decide +kernel
theorem dX9_meet_89 : decode cX9_meet 89 = .ok (.ireturn, 1) := by decide +kernel
theorem dX9_absent_0 : decode cX9_absent 0 = .ok (.aload_n 0, 1) := by decide +kernel
theorem dX9_absent_1 : decode cX9_absent 1 = .ok (.iconst 1, 1) := by decide +kernel
theorem dX9_absent_2 : decode cX9_absent 2 = .ok (.iload_n 1, 1) := by decide +kernel
theorem dX9_absent_3 : decode cX9_absent 3 = .ok (.invokevirtual 150, 3) := by decide +kernel
theorem dX9_absent_6 : decode cX9_absent 6 = .ok (.istore_n 3, 1) := by decide +kernel
theorem dX9_absent_7 : decode cX9_absent 7 = .ok (.iload_n 3, 1) := by decide +kernel
theorem dX9_absent_8 : decode cX9_absent 8 = .ok (.ifCond .ge 5, 3) := by decide +kernel
theorem dX9_absent_11 : decode cX9_absent 11 = .ok (.iload_n 3, 1) := by decide +kernel
theorem dX9_absent_12 : decode cX9_absent 12 = .ok (.ireturn, 1) := by decide +kernel
theorem dX9_absent_13 : decode cX9_absent 13 = .ok (.aload_n 0, 1) := by decide +kernel
theorem dX9_absent_14 : decode cX9_absent 14 = .ok (.getfield 26, 3) := by decide +kernel
theorem dX9_absent_17 : decode cX9_absent 17 = .ok (.iload_n 1, 1) := by decide +kernel
theorem dX9_absent_18 : decode cX9_absent 18 = .ok (.baload, 1) := by decide +kernel
theorem dX9_absent_19 : decode cX9_absent 19 = .ok (.ifCond .eq 7, 3) := by decide +kernel
theorem dX9_absent_22 : decode cX9_absent 22 = .ok (.iconst 1, 1) := by decide +kernel
theorem dX9_absent_23 : decode cX9_absent 23 = .ok (.goto 4, 3) := by decide +kernel
theorem dX9_absent_26 : decode cX9_absent 26 = .ok (.iconst 0, 1) := by decide +kernel
theorem dX9_absent_27 : decode cX9_absent 27 = .ok (.istore 4, 2) := by decide +kernel
theorem dX9_absent_29 : decode cX9_absent 29 = .ok (.aload_n 0, 1) := by decide +kernel
theorem dX9_absent_30 : decode cX9_absent 30 = .ok (.getfield 26, 3) := by decide +kernel
theorem dX9_absent_33 : decode cX9_absent 33 = .ok (.iload_n 1, 1) := by decide +kernel
theorem dX9_absent_34 : decode cX9_absent 34 = .ok (.iload_n 2, 1) := by decide +kernel
theorem dX9_absent_35 : decode cX9_absent 35 = .ok (.bastore, 1) := by decide +kernel
theorem dX9_absent_36 : decode cX9_absent 36 = .ok (.iload 4, 2) := by decide +kernel
theorem dX9_absent_38 : decode cX9_absent 38 = .ok (.ireturn, 1) := by decide +kernel
theorem dX9_barredBits_0 : decode cX9_barredBits 0 = .ok (.aload_n 0, 1) := by decide +kernel
theorem dX9_barredBits_1 : decode cX9_barredBits 1 = .ok (.getfield 16, 3) := by decide +kernel
theorem dX9_barredBits_4 : decode cX9_barredBits 4 = .ok (.iload_n 1, 1) := by decide +kernel
theorem dX9_barredBits_5 : decode cX9_barredBits 5 = .ok (.iaload, 1) := by decide +kernel
theorem dX9_barredBits_6 : decode cX9_barredBits 6 = .ok (.aload_n 0, 1) := by decide +kernel
theorem dX9_barredBits_7 : decode cX9_barredBits 7 = .ok (.getfield 16, 3) := by decide +kernel
theorem dX9_barredBits_10 : decode cX9_barredBits 10 = .ok (.iload_n 2, 1) := by decide +kernel
theorem dX9_barredBits_11 : decode cX9_barredBits 11 = .ok (.iaload, 1) := by decide +kernel
theorem dX9_barredBits_12 : decode cX9_barredBits 12 = .ok (.if_icmp .ne 7, 3) := by decide +kernel
theorem dX9_barredBits_15 : decode cX9_barredBits 15 = .ok (.iconst 1, 1) := by decide +kernel
theorem dX9_barredBits_16 : decode cX9_barredBits 16 = .ok (.goto 4, 3) := by decide +kernel
theorem dX9_barredBits_19 : decode cX9_barredBits 19 = .ok (.iconst 0, 1) := by decide +kernel
theorem dX9_barredBits_20 : decode cX9_barredBits 20 = .ok (.istore_n 3, 1) := by decide +kernel
theorem dX9_barredBits_21 : decode cX9_barredBits 21 = .ok (.iload_n 3, 1) := by decide +kernel
theorem dX9_barredBits_22 : decode cX9_barredBits 22 = .ok (.aload_n 0, 1) := by decide +kernel
theorem dX9_barredBits_23 : decode cX9_barredBits 23 = .ok (.getfield 19, 3) := by decide +kernel
theorem dX9_barredBits_26 : decode cX9_barredBits 26 = .ok (.iload_n 1, 1) := by decide +kernel
theorem dX9_barredBits_27 : decode cX9_barredBits 27 = .ok (.iaload, 1) := by decide +kernel
theorem dX9_barredBits_28 : decode cX9_barredBits 28 = .ok (.bipush (-9), 2) := by decide +kernel
theorem dX9_barredBits_30 : decode cX9_barredBits 30 = .ok (.if_icmp .eq 22, 3) := by decide +kernel
theorem dX9_barredBits_33 : decode cX9_barredBits 33 = .ok (.aload_n 0, 1) := by decide +kernel
theorem dX9_barredBits_34 : decode cX9_barredBits 34 = .ok (.getfield 19, 3) := by decide +kernel
theorem dX9_barredBits_37 : decode cX9_barredBits 37 = .ok (.iload_n 1, 1) := by decide +kernel
theorem dX9_barredBits_38 : decode cX9_barredBits 38 = .ok (.iaload, 1) := by decide +kernel
theorem dX9_barredBits_39 : decode cX9_barredBits 39 = .ok (.aload_n 0, 1) := by decide +kernel
theorem dX9_barredBits_40 : decode cX9_barredBits 40 = .ok (.getfield 19, 3) := by decide +kernel
theorem dX9_barredBits_43 : decode cX9_barredBits 43 = .ok (.iload_n 2, 1) := by decide +kernel
theorem dX9_barredBits_44 : decode cX9_barredBits 44 = .ok (.iaload, 1) := by decide +kernel
theorem dX9_barredBits_45 : decode cX9_barredBits 45 = .ok (.if_icmp .ne 7, 3) := by decide +kernel
theorem dX9_barredBits_48 : decode cX9_barredBits 48 = .ok (.iconst 2, 1) := by decide +kernel
theorem dX9_barredBits_49 : decode cX9_barredBits 49 = .ok (.goto 4, 3) := by decide +kernel
theorem dX9_barredBits_52 : decode cX9_barredBits 52 = .ok (.iconst 0, 1) := by decide +kernel
theorem dX9_barredBits_53 : decode cX9_barredBits 53 = .ok (.iadd, 1) := by decide +kernel
theorem dX9_barredBits_54 : decode cX9_barredBits 54 = .ok (.istore_n 3, 1) := by decide +kernel
theorem dX9_barredBits_55 : decode cX9_barredBits 55 = .ok (.iconst 0, 1) := by decide +kernel
theorem dX9_barredBits_56 : decode cX9_barredBits 56 = .ok (.istore 4, 2) := by decide +kernel
theorem dX9_barredBits_58 : decode cX9_barredBits 58 = .ok (.iconst 0, 1) := by decide +kernel
theorem dX9_barredBits_59 : decode cX9_barredBits 59 = .ok (.istore 5, 2) := by decide +kernel
theorem dX9_barredBits_61 : decode cX9_barredBits 61 = .ok (.iload 5, 2) := by decide +kernel
theorem dX9_barredBits_63 : decode cX9_barredBits 63 = .ok (.aload_n 0, 1) := by decide +kernel
theorem dX9_barredBits_64 : decode cX9_barredBits 64 = .ok (.getfield 170, 3) := by decide +kernel
theorem dX9_barredBits_67 : decode cX9_barredBits 67 = .ok (.if_icmp .ge 72, 3) := by decide +kernel
theorem dX9_barredBits_70 : decode cX9_barredBits 70 = .ok (.aload_n 0, 1) := by decide +kernel
theorem dX9_barredBits_71 : decode cX9_barredBits 71 = .ok (.getfield 132, 3) := by decide +kernel
theorem dX9_barredBits_74 : decode cX9_barredBits 74 = .ok (.ifCond .eq 65, 3) := by decide +kernel
theorem dX9_barredBits_77 : decode cX9_barredBits 77 = .ok (.iload 4, 2) := by decide +kernel
theorem dX9_barredBits_79 : decode cX9_barredBits 79 = .ok (.ifCond .ne 47, 3) := by decide +kernel
theorem dX9_barredBits_82 : decode cX9_barredBits 82 = .ok (.aload_n 0, 1) := by decide +kernel
theorem dX9_barredBits_83 : decode cX9_barredBits 83 = .ok (.getfield 57, 3) := by decide +kernel
theorem dX9_barredBits_86 : decode cX9_barredBits 86 = .ok (.iload 5, 2) := by decide +kernel
theorem dX9_barredBits_88 : decode cX9_barredBits 88 = .ok (.iaload, 1) := by decide +kernel
theorem dX9_barredBits_89 : decode cX9_barredBits 89 = .ok (.iload_n 1, 1) := by decide +kernel
theorem dX9_barredBits_90 : decode cX9_barredBits 90 = .ok (.if_icmp .ne 14, 3) := by decide +kernel
theorem dX9_barredBits_93 : decode cX9_barredBits 93 = .ok (.aload_n 0, 1) := by decide +kernel
theorem dX9_barredBits_94 : decode cX9_barredBits 94 = .ok (.getfield 60, 3) := by decide +kernel
theorem dX9_barredBits_97 : decode cX9_barredBits 97 = .ok (.iload 5, 2) := by decide +kernel
theorem dX9_barredBits_99 : decode cX9_barredBits 99 = .ok (.iaload, 1) := by decide +kernel
theorem dX9_barredBits_100 : decode cX9_barredBits 100 = .ok (.iload_n 2, 1) := by decide +kernel
theorem dX9_barredBits_101 : decode cX9_barredBits 101 = .ok (.if_icmp .eq 25, 3) := by decide +kernel
theorem dX9_barredBits_104 : decode cX9_barredBits 104 = .ok (.aload_n 0, 1) := by decide +kernel
theorem dX9_barredBits_105 : decode cX9_barredBits 105 = .ok (.getfield 57, 3) := by decide +kernel
theorem dX9_barredBits_108 : decode cX9_barredBits 108 = .ok (.iload 5, 2) := by decide +kernel
theorem dX9_barredBits_110 : decode cX9_barredBits 110 = .ok (.iaload, 1) := by decide +kernel
theorem dX9_barredBits_111 : decode cX9_barredBits 111 = .ok (.iload_n 2, 1) := by decide +kernel
theorem dX9_barredBits_112 : decode cX9_barredBits 112 = .ok (.if_icmp .ne 18, 3) := by decide +kernel
theorem dX9_barredBits_115 : decode cX9_barredBits 115 = .ok (.aload_n 0, 1) := by decide +kernel
theorem dX9_barredBits_116 : decode cX9_barredBits 116 = .ok (.getfield 60, 3) := by decide +kernel
theorem dX9_barredBits_119 : decode cX9_barredBits 119 = .ok (.iload 5, 2) := by decide +kernel
theorem dX9_barredBits_121 : decode cX9_barredBits 121 = .ok (.iaload, 1) := by decide +kernel
theorem dX9_barredBits_122 : decode cX9_barredBits 122 = .ok (.iload_n 1, 1) := by decide +kernel
theorem dX9_barredBits_123 : decode cX9_barredBits 123 = .ok (.if_icmp .ne 7, 3) := by decide +kernel
theorem dX9_barredBits_126 : decode cX9_barredBits 126 = .ok (.iconst 1, 1) := by decide +kernel
theorem dX9_barredBits_127 : decode cX9_barredBits 127 = .ok (.goto 4, 3) := by decide +kernel
theorem dX9_barredBits_130 : decode cX9_barredBits 130 = .ok (.iconst 0, 1) := by decide +kernel
theorem dX9_barredBits_131 : decode cX9_barredBits 131 = .ok (.istore 4, 2) := by decide +kernel
theorem dX9_barredBits_133 : decode cX9_barredBits 133 = .ok (.iinc 5 1, 3) := by decide +kernel
theorem dX9_barredBits_136 : decode cX9_barredBits 136 = .ok (.goto (-75), 3) := by decide +kernel
theorem dX9_barredBits_139 : decode cX9_barredBits 139 = .ok (.iload 4, 2) := by decide +kernel
theorem dX9_barredBits_141 : decode cX9_barredBits 141 = .ok (.ifCond .eq 9, 3) := by decide +kernel
theorem dX9_barredBits_144 : decode cX9_barredBits 144 = .ok (.iload_n 3, 1) := by decide +kernel
theorem dX9_barredBits_145 : decode cX9_barredBits 145 = .ok (.iconst 4, 1) := by decide +kernel
theorem dX9_barredBits_146 : decode cX9_barredBits 146 = .ok (.iadd, 1) := by decide +kernel
theorem dX9_barredBits_147 : decode cX9_barredBits 147 = .ok (.goto 4, 3) := by decide +kernel
theorem dX9_barredBits_150 : decode cX9_barredBits 150 = .ok (.iload_n 3, 1) := by decide +kernel
theorem dX9_barredBits_151 : decode cX9_barredBits 151 = .ok (.ireturn, 1) := by decide +kernel
theorem dX9_barred_0 : decode cX9_barred 0 = .ok (.aload_n 0, 1) := by decide +kernel
theorem dX9_barred_1 : decode cX9_barred 1 = .ok (.iload_n 1, 1) := by decide +kernel
theorem dX9_barred_2 : decode cX9_barred 2 = .ok (.invokevirtual 139, 3) := by decide +kernel
theorem dX9_barred_5 : decode cX9_barred 5 = .ok (.ifCond .eq 16, 3) := by decide +kernel
theorem dX9_barred_8 : decode cX9_barred 8 = .ok (.aload_n 0, 1) := by decide +kernel
theorem dX9_barred_9 : decode cX9_barred 9 = .ok (.iload_n 2, 1) := by decide +kernel
theorem dX9_barred_10 : decode cX9_barred 10 = .ok (.invokevirtual 139, 3) := by decide +kernel
theorem dX9_barred_13 : decode cX9_barred 13 = .ok (.ifCond .eq 8, 3) := by decide +kernel
theorem dX9_barred_16 : decode cX9_barred 16 = .ok (.iload_n 1, 1) := by decide +kernel
theorem dX9_barred_17 : decode cX9_barred 17 = .ok (.iload_n 2, 1) := by decide +kernel
theorem dX9_barred_18 : decode cX9_barred 18 = .ok (.if_icmp .ne 5, 3) := by decide +kernel
theorem dX9_barred_21 : decode cX9_barred 21 = .ok (.iconst (-1), 1) := by decide +kernel
theorem dX9_barred_22 : decode cX9_barred 22 = .ok (.ireturn, 1) := by decide +kernel
theorem dX9_barred_23 : decode cX9_barred 23 = .ok (.aload_n 0, 1) := by decide +kernel
theorem dX9_barred_24 : decode cX9_barred 24 = .ok (.getfield 22, 3) := by decide +kernel
theorem dX9_barred_27 : decode cX9_barred 27 = .ok (.iload_n 1, 1) := by decide +kernel
theorem dX9_barred_28 : decode cX9_barred 28 = .ok (.baload, 1) := by decide +kernel
theorem dX9_barred_29 : decode cX9_barred 29 = .ok (.ifCond .ne 12, 3) := by decide +kernel
theorem dX9_barred_32 : decode cX9_barred 32 = .ok (.aload_n 0, 1) := by decide +kernel
theorem dX9_barred_33 : decode cX9_barred 33 = .ok (.getfield 22, 3) := by decide +kernel
theorem dX9_barred_36 : decode cX9_barred 36 = .ok (.iload_n 2, 1) := by decide +kernel
theorem dX9_barred_37 : decode cX9_barred 37 = .ok (.baload, 1) := by decide +kernel
theorem dX9_barred_38 : decode cX9_barred 38 = .ok (.ifCond .eq 11, 3) := by decide +kernel
theorem dX9_barred_41 : decode cX9_barred 41 = .ok (.aload_n 0, 1) := by decide +kernel
theorem dX9_barred_42 : decode cX9_barred 42 = .ok (.iconst 1, 1) := by decide +kernel
theorem dX9_barred_43 : decode cX9_barred 43 = .ok (.invokevirtual 143, 3) := by decide +kernel
theorem dX9_barred_46 : decode cX9_barred 46 = .ok (.goto 9, 3) := by decide +kernel
theorem dX9_barred_49 : decode cX9_barred 49 = .ok (.aload_n 0, 1) := by decide +kernel
theorem dX9_barred_50 : decode cX9_barred 50 = .ok (.iload_n 1, 1) := by decide +kernel
theorem dX9_barred_51 : decode cX9_barred 51 = .ok (.iload_n 2, 1) := by decide +kernel
theorem dX9_barred_52 : decode cX9_barred 52 = .ok (.invokevirtual 179, 3) := by decide +kernel
theorem dX9_barred_55 : decode cX9_barred 55 = .ok (.ireturn, 1) := by decide +kernel
theorem dX9_layPairs_0 : decode cX9_layPairs 0 = .ok (.aload_n 0, 1) := by decide +kernel
theorem dX9_layPairs_1 : decode cX9_layPairs 1 = .ok (.iconst 0, 1) := by decide +kernel
theorem dX9_layPairs_2 : decode cX9_layPairs 2 = .ok (.putfield 182, 3) := by decide +kernel
theorem dX9_layPairs_5 : decode cX9_layPairs 5 = .ok (.iconst 0, 1) := by decide +kernel
theorem dX9_layPairs_6 : decode cX9_layPairs 6 = .ok (.istore_n 1, 1) := by decide +kernel
theorem dX9_layPairs_7 : decode cX9_layPairs 7 = .ok (.iload_n 1, 1) := by decide +kernel
theorem dX9_layPairs_8 : decode cX9_layPairs 8 = .ok (.aload_n 0, 1) := by decide +kernel
theorem dX9_layPairs_9 : decode cX9_layPairs 9 = .ok (.getfield 126, 3) := by decide +kernel
theorem dX9_layPairs_12 : decode cX9_layPairs 12 = .ok (.if_icmp .ge 48, 3) := by decide +kernel
theorem dX9_layPairs_15 : decode cX9_layPairs 15 = .ok (.aload_n 0, 1) := by decide +kernel
theorem dX9_layPairs_16 : decode cX9_layPairs 16 = .ok (.getfield 26, 3) := by decide +kernel
theorem dX9_layPairs_19 : decode cX9_layPairs 19 = .ok (.aload_n 0, 1) := by decide +kernel
theorem dX9_layPairs_20 : decode cX9_layPairs 20 = .ok (.getfield 41, 3) := by decide +kernel
theorem dX9_layPairs_23 : decode cX9_layPairs 23 = .ok (.iload_n 1, 1) := by decide +kernel
theorem dX9_layPairs_24 : decode cX9_layPairs 24 = .ok (.iaload, 1) := by decide +kernel
theorem dX9_layPairs_25 : decode cX9_layPairs 25 = .ok (.baload, 1) := by decide +kernel
theorem dX9_layPairs_26 : decode cX9_layPairs 26 = .ok (.ifCond .ne 28, 3) := by decide +kernel
theorem dX9_layPairs_29 : decode cX9_layPairs 29 = .ok (.aload_n 0, 1) := by decide +kernel
theorem dX9_layPairs_30 : decode cX9_layPairs 30 = .ok (.getfield 66, 3) := by decide +kernel
theorem dX9_layPairs_33 : decode cX9_layPairs 33 = .ok (.aload_n 0, 1) := by decide +kernel
theorem dX9_layPairs_34 : decode cX9_layPairs 34 = .ok (.getfield 182, 3) := by decide +kernel
theorem dX9_layPairs_37 : decode cX9_layPairs 37 = .ok (.aload_n 0, 1) := by decide +kernel
theorem dX9_layPairs_38 : decode cX9_layPairs 38 = .ok (.getfield 41, 3) := by decide +kernel
theorem dX9_layPairs_41 : decode cX9_layPairs 41 = .ok (.iload_n 1, 1) := by decide +kernel
theorem dX9_layPairs_42 : decode cX9_layPairs 42 = .ok (.iaload, 1) := by decide +kernel
theorem dX9_layPairs_43 : decode cX9_layPairs 43 = .ok (.iastore, 1) := by decide +kernel
theorem dX9_layPairs_44 : decode cX9_layPairs 44 = .ok (.aload_n 0, 1) := by decide +kernel
theorem dX9_layPairs_45 : decode cX9_layPairs 45 = .ok (.dup, 1) := by decide +kernel
theorem dX9_layPairs_46 : decode cX9_layPairs 46 = .ok (.getfield 182, 3) := by decide +kernel
theorem dX9_layPairs_49 : decode cX9_layPairs 49 = .ok (.iconst 1, 1) := by decide +kernel
theorem dX9_layPairs_50 : decode cX9_layPairs 50 = .ok (.iadd, 1) := by decide +kernel
theorem dX9_layPairs_51 : decode cX9_layPairs 51 = .ok (.putfield 182, 3) := by decide +kernel
theorem dX9_layPairs_54 : decode cX9_layPairs 54 = .ok (.iinc 1 1, 3) := by decide +kernel
theorem dX9_layPairs_57 : decode cX9_layPairs 57 = .ok (.goto (-50), 3) := by decide +kernel
theorem dX9_layPairs_60 : decode cX9_layPairs 60 = .ok (.iconst 0, 1) := by decide +kernel
theorem dX9_layPairs_61 : decode cX9_layPairs 61 = .ok (.istore_n 1, 1) := by decide +kernel
theorem dX9_layPairs_62 : decode cX9_layPairs 62 = .ok (.iload_n 1, 1) := by decide +kernel
theorem dX9_layPairs_63 : decode cX9_layPairs 63 = .ok (.aload_n 0, 1) := by decide +kernel
theorem dX9_layPairs_64 : decode cX9_layPairs 64 = .ok (.getfield 182, 3) := by decide +kernel
theorem dX9_layPairs_67 : decode cX9_layPairs 67 = .ok (.if_icmp .ge 118, 3) := by decide +kernel
theorem dX9_layPairs_70 : decode cX9_layPairs 70 = .ok (.iload_n 1, 1) := by decide +kernel
theorem dX9_layPairs_71 : decode cX9_layPairs 71 = .ok (.iconst 1, 1) := by decide +kernel
theorem dX9_layPairs_72 : decode cX9_layPairs 72 = .ok (.iadd, 1) := by decide +kernel
theorem dX9_layPairs_73 : decode cX9_layPairs 73 = .ok (.istore_n 2, 1) := by decide +kernel
theorem dX9_layPairs_74 : decode cX9_layPairs 74 = .ok (.iload_n 2, 1) := by decide +kernel
theorem dX9_layPairs_75 : decode cX9_layPairs 75 = .ok (.aload_n 0, 1) := by decide +kernel
theorem dX9_layPairs_76 : decode cX9_layPairs 76 = .ok (.getfield 182, 3) := by decide +kernel
theorem dX9_layPairs_79 : decode cX9_layPairs 79 = .ok (.if_icmp .ge 100, 3) := by decide +kernel
theorem dX9_layPairs_82 : decode cX9_layPairs 82 = .ok (.aload_n 0, 1) := by decide +kernel
theorem dX9_layPairs_83 : decode cX9_layPairs 83 = .ok (.getfield 66, 3) := by decide +kernel
theorem dX9_layPairs_86 : decode cX9_layPairs 86 = .ok (.iload_n 1, 1) := by decide +kernel
theorem dX9_layPairs_87 : decode cX9_layPairs 87 = .ok (.iaload, 1) := by decide +kernel
theorem dX9_layPairs_88 : decode cX9_layPairs 88 = .ok (.istore_n 3, 1) := by decide +kernel
theorem dX9_layPairs_89 : decode cX9_layPairs 89 = .ok (.aload_n 0, 1) := by decide +kernel
theorem dX9_layPairs_90 : decode cX9_layPairs 90 = .ok (.getfield 66, 3) := by decide +kernel
theorem dX9_layPairs_93 : decode cX9_layPairs 93 = .ok (.iload_n 2, 1) := by decide +kernel
theorem dX9_layPairs_94 : decode cX9_layPairs 94 = .ok (.iaload, 1) := by decide +kernel
theorem dX9_layPairs_95 : decode cX9_layPairs 95 = .ok (.istore 4, 2) := by decide +kernel
theorem dX9_layPairs_97 : decode cX9_layPairs 97 = .ok (.aload_n 0, 1) := by decide +kernel
theorem dX9_layPairs_98 : decode cX9_layPairs 98 = .ok (.getfield 29, 3) := by decide +kernel
theorem dX9_layPairs_101 : decode cX9_layPairs 101 = .ok (.iload_n 3, 1) := by decide +kernel
theorem dX9_layPairs_102 : decode cX9_layPairs 102 = .ok (.iaload, 1) := by decide +kernel
theorem dX9_layPairs_103 : decode cX9_layPairs 103 = .ok (.aload_n 0, 1) := by decide +kernel
theorem dX9_layPairs_104 : decode cX9_layPairs 104 = .ok (.getfield 29, 3) := by decide +kernel
theorem dX9_layPairs_107 : decode cX9_layPairs 107 = .ok (.iload 4, 2) := by decide +kernel
theorem dX9_layPairs_109 : decode cX9_layPairs 109 = .ok (.iaload, 1) := by decide +kernel
theorem dX9_layPairs_110 : decode cX9_layPairs 110 = .ok (.isub, 1) := by decide +kernel
theorem dX9_layPairs_111 : decode cX9_layPairs 111 = .ok (.istore 5, 2) := by decide +kernel
theorem dX9_layPairs_113 : decode cX9_layPairs 113 = .ok (.iload 5, 2) := by decide +kernel
theorem dX9_layPairs_115 : decode cX9_layPairs 115 = .ok (.ifCond .ge 9, 3) := by decide +kernel
theorem dX9_layPairs_118 : decode cX9_layPairs 118 = .ok (.iload 5, 2) := by decide +kernel
theorem dX9_layPairs_120 : decode cX9_layPairs 120 = .ok (.ineg, 1) := by decide +kernel
theorem dX9_layPairs_121 : decode cX9_layPairs 121 = .ok (.goto 5, 3) := by decide +kernel
theorem dX9_layPairs_124 : decode cX9_layPairs 124 = .ok (.iload 5, 2) := by decide +kernel
theorem dX9_layPairs_126 : decode cX9_layPairs 126 = .ok (.istore 6, 2) := by decide +kernel
theorem dX9_layPairs_128 : decode cX9_layPairs 128 = .ok (.aload_n 0, 1) := by decide +kernel
theorem dX9_layPairs_129 : decode cX9_layPairs 129 = .ok (.getfield 69, 3) := by decide +kernel
theorem dX9_layPairs_132 : decode cX9_layPairs 132 = .ok (.bipush 16, 2) := by decide +kernel
theorem dX9_layPairs_134 : decode cX9_layPairs 134 = .ok (.iload_n 1, 1) := by decide +kernel
theorem dX9_layPairs_135 : decode cX9_layPairs 135 = .ok (.imul, 1) := by decide +kernel
theorem dX9_layPairs_136 : decode cX9_layPairs 136 = .ok (.iload_n 2, 1) := by decide +kernel
theorem dX9_layPairs_137 : decode cX9_layPairs 137 = .ok (.iadd, 1) := by decide +kernel
theorem dX9_layPairs_138 : decode cX9_layPairs 138 = .ok (.aload_n 0, 1) := by decide +kernel
theorem dX9_layPairs_139 : decode cX9_layPairs 139 = .ok (.iload_n 3, 1) := by decide +kernel
theorem dX9_layPairs_140 : decode cX9_layPairs 140 = .ok (.iload 4, 2) := by decide +kernel
theorem dX9_layPairs_142 : decode cX9_layPairs 142 = .ok (.invokevirtual 179, 3) := by decide +kernel
theorem dX9_layPairs_145 : decode cX9_layPairs 145 = .ok (.ifCond .le 8, 3) := by decide +kernel
theorem dX9_layPairs_148 : decode cX9_layPairs 148 = .ok (.bipush (-9), 2) := by decide +kernel
theorem dX9_layPairs_150 : decode cX9_layPairs 150 = .ok (.goto 22, 3) := by decide +kernel
theorem dX9_layPairs_153 : decode cX9_layPairs 153 = .ok (.aload_n 0, 1) := by decide +kernel
theorem dX9_layPairs_154 : decode cX9_layPairs 154 = .ok (.iload 6, 2) := by decide +kernel
theorem dX9_layPairs_156 : decode cX9_layPairs 156 = .ok (.invokevirtual 161, 3) := by decide +kernel
theorem dX9_layPairs_159 : decode cX9_layPairs 159 = .ok (.aload_n 0, 1) := by decide +kernel
theorem dX9_layPairs_160 : decode cX9_layPairs 160 = .ok (.iload 4, 2) := by decide +kernel
theorem dX9_layPairs_162 : decode cX9_layPairs 162 = .ok (.invokevirtual 147, 3) := by decide +kernel
theorem dX9_layPairs_165 : decode cX9_layPairs 165 = .ok (.iadd, 1) := by decide +kernel
theorem dX9_layPairs_166 : decode cX9_layPairs 166 = .ok (.aload_n 0, 1) := by decide +kernel
theorem dX9_layPairs_167 : decode cX9_layPairs 167 = .ok (.iload_n 3, 1) := by decide +kernel
theorem dX9_layPairs_168 : decode cX9_layPairs 168 = .ok (.invokevirtual 147, 3) := by decide +kernel
theorem dX9_layPairs_171 : decode cX9_layPairs 171 = .ok (.isub, 1) := by decide +kernel
theorem dX9_layPairs_172 : decode cX9_layPairs 172 = .ok (.iastore, 1) := by decide +kernel
theorem dX9_layPairs_173 : decode cX9_layPairs 173 = .ok (.iinc 2 1, 3) := by decide +kernel
theorem dX9_layPairs_176 : decode cX9_layPairs 176 = .ok (.goto (-102), 3) := by decide +kernel
theorem dX9_layPairs_179 : decode cX9_layPairs 179 = .ok (.iinc 1 1, 3) := by decide +kernel
theorem dX9_layPairs_182 : decode cX9_layPairs 182 = .ok (.goto (-120), 3) := by decide +kernel
theorem dX9_layPairs_185 : decode cX9_layPairs 185 = .ok (.return_, 1) := by decide +kernel
theorem dX9_first_0 : decode cX9_first 0 = .ok (.iconst 0, 1) := by decide +kernel
theorem dX9_first_1 : decode cX9_first 1 = .ok (.istore_n 2, 1) := by decide +kernel
theorem dX9_first_2 : decode cX9_first 2 = .ok (.iload_n 1, 1) := by decide +kernel
theorem dX9_first_3 : decode cX9_first 3 = .ok (.iload_n 2, 1) := by decide +kernel
theorem dX9_first_4 : decode cX9_first 4 = .ok (.ishr, 1) := by decide +kernel
theorem dX9_first_5 : decode cX9_first 5 = .ok (.iconst 1, 1) := by decide +kernel
theorem dX9_first_6 : decode cX9_first 6 = .ok (.iand, 1) := by decide +kernel
theorem dX9_first_7 : decode cX9_first 7 = .ok (.ifCond .ne 9, 3) := by decide +kernel
theorem dX9_first_10 : decode cX9_first 10 = .ok (.iinc 2 1, 3) := by decide +kernel
theorem dX9_first_13 : decode cX9_first 13 = .ok (.goto (-11), 3) := by decide +kernel
theorem dX9_first_16 : decode cX9_first 16 = .ok (.iload_n 2, 1) := by decide +kernel
theorem dX9_first_17 : decode cX9_first 17 = .ok (.ireturn, 1) := by decide +kernel
theorem dX9_layLeast_0 : decode cX9_layLeast 0 = .ok (.aload_n 0, 1) := by decide +kernel
theorem dX9_layLeast_1 : decode cX9_layLeast 1 = .ok (.getfield 73, 3) := by decide +kernel
theorem dX9_layLeast_4 : decode cX9_layLeast 4 = .ok (.iconst 0, 1) := by decide +kernel
theorem dX9_layLeast_5 : decode cX9_layLeast 5 = .ok (.iconst 0, 1) := by decide +kernel
theorem dX9_layLeast_6 : decode cX9_layLeast 6 = .ok (.iastore, 1) := by decide +kernel
theorem dX9_layLeast_7 : decode cX9_layLeast 7 = .ok (.iconst 1, 1) := by decide +kernel
theorem dX9_layLeast_8 : decode cX9_layLeast 8 = .ok (.istore_n 1, 1) := by decide +kernel
theorem dX9_layLeast_9 : decode cX9_layLeast 9 = .ok (.iload_n 1, 1) := by decide +kernel
theorem dX9_layLeast_10 : decode cX9_layLeast 10 = .ok (.iconst 1, 1) := by decide +kernel
theorem dX9_layLeast_11 : decode cX9_layLeast 11 = .ok (.aload_n 0, 1) := by decide +kernel
theorem dX9_layLeast_12 : decode cX9_layLeast 12 = .ok (.getfield 182, 3) := by decide +kernel
theorem dX9_layLeast_15 : decode cX9_layLeast 15 = .ok (.ishl, 1) := by decide +kernel
theorem dX9_layLeast_16 : decode cX9_layLeast 16 = .ok (.if_icmp .ge 133, 3) := by decide +kernel
theorem dX9_layLeast_19 : decode cX9_layLeast 19 = .ok (.aload_n 0, 1) := by decide +kernel
theorem dX9_layLeast_20 : decode cX9_layLeast 20 = .ok (.iload_n 1, 1) := by decide +kernel
theorem dX9_layLeast_21 : decode cX9_layLeast 21 = .ok (.invokevirtual 185, 3) := by decide +kernel
theorem dX9_layLeast_24 : decode cX9_layLeast 24 = .ok (.istore_n 2, 1) := by decide +kernel
theorem dX9_layLeast_25 : decode cX9_layLeast 25 = .ok (.iload_n 1, 1) := by decide +kernel
theorem dX9_layLeast_26 : decode cX9_layLeast 26 = .ok (.iconst 1, 1) := by decide +kernel
theorem dX9_layLeast_27 : decode cX9_layLeast 27 = .ok (.iload_n 2, 1) := by decide +kernel
theorem dX9_layLeast_28 : decode cX9_layLeast 28 = .ok (.ishl, 1) := by decide +kernel
theorem dX9_layLeast_29 : decode cX9_layLeast 29 = .ok (.iconst (-1), 1) := by decide +kernel
theorem dX9_layLeast_30 : decode cX9_layLeast 30 = .ok (.ixor, 1) := by decide +kernel
theorem dX9_layLeast_31 : decode cX9_layLeast 31 = .ok (.iand, 1) := by decide +kernel
theorem dX9_layLeast_32 : decode cX9_layLeast 32 = .ok (.istore_n 3, 1) := by decide +kernel
theorem dX9_layLeast_33 : decode cX9_layLeast 33 = .ok (.sipush 10000, 3) := by decide +kernel
theorem dX9_layLeast_36 : decode cX9_layLeast 36 = .ok (.aload_n 0, 1) := by decide +kernel
theorem dX9_layLeast_37 : decode cX9_layLeast 37 = .ok (.getfield 73, 3) := by decide +kernel
theorem dX9_layLeast_40 : decode cX9_layLeast 40 = .ok (.iload_n 3, 1) := by decide +kernel
theorem dX9_layLeast_41 : decode cX9_layLeast 41 = .ok (.iaload, 1) := by decide +kernel
theorem dX9_layLeast_42 : decode cX9_layLeast 42 = .ok (.iadd, 1) := by decide +kernel
theorem dX9_layLeast_43 : decode cX9_layLeast 43 = .ok (.istore 4, 2) := by decide +kernel
theorem dX9_layLeast_45 : decode cX9_layLeast 45 = .ok (.iload_n 2, 1) := by decide +kernel
theorem dX9_layLeast_46 : decode cX9_layLeast 46 = .ok (.iconst 1, 1) := by decide +kernel
theorem dX9_layLeast_47 : decode cX9_layLeast 47 = .ok (.iadd, 1) := by decide +kernel
theorem dX9_layLeast_48 : decode cX9_layLeast 48 = .ok (.istore 5, 2) := by decide +kernel
theorem dX9_layLeast_50 : decode cX9_layLeast 50 = .ok (.iload 5, 2) := by decide +kernel
theorem dX9_layLeast_52 : decode cX9_layLeast 52 = .ok (.aload_n 0, 1) := by decide +kernel
theorem dX9_layLeast_53 : decode cX9_layLeast 53 = .ok (.getfield 182, 3) := by decide +kernel
theorem dX9_layLeast_56 : decode cX9_layLeast 56 = .ok (.if_icmp .ge 79, 3) := by decide +kernel
theorem dX9_layLeast_59 : decode cX9_layLeast 59 = .ok (.aload_n 0, 1) := by decide +kernel
theorem dX9_layLeast_60 : decode cX9_layLeast 60 = .ok (.getfield 69, 3) := by decide +kernel
theorem dX9_layLeast_63 : decode cX9_layLeast 63 = .ok (.bipush 16, 2) := by decide +kernel
theorem dX9_layLeast_65 : decode cX9_layLeast 65 = .ok (.iload_n 2, 1) := by decide +kernel
theorem dX9_layLeast_66 : decode cX9_layLeast 66 = .ok (.imul, 1) := by decide +kernel
theorem dX9_layLeast_67 : decode cX9_layLeast 67 = .ok (.iload 5, 2) := by decide +kernel
theorem dX9_layLeast_69 : decode cX9_layLeast 69 = .ok (.iadd, 1) := by decide +kernel
theorem dX9_layLeast_70 : decode cX9_layLeast 70 = .ok (.iaload, 1) := by decide +kernel
theorem dX9_layLeast_71 : decode cX9_layLeast 71 = .ok (.istore 6, 2) := by decide +kernel
theorem dX9_layLeast_73 : decode cX9_layLeast 73 = .ok (.iload_n 3, 1) := by decide +kernel
theorem dX9_layLeast_74 : decode cX9_layLeast 74 = .ok (.iload 5, 2) := by decide +kernel
theorem dX9_layLeast_76 : decode cX9_layLeast 76 = .ok (.ishr, 1) := by decide +kernel
theorem dX9_layLeast_77 : decode cX9_layLeast 77 = .ok (.iconst 1, 1) := by decide +kernel
theorem dX9_layLeast_78 : decode cX9_layLeast 78 = .ok (.iand, 1) := by decide +kernel
theorem dX9_layLeast_79 : decode cX9_layLeast 79 = .ok (.iconst 1, 1) := by decide +kernel
theorem dX9_layLeast_80 : decode cX9_layLeast 80 = .ok (.if_icmp .ne 49, 3) := by decide +kernel
theorem dX9_layLeast_83 : decode cX9_layLeast 83 = .ok (.iload 6, 2) := by decide +kernel
theorem dX9_layLeast_85 : decode cX9_layLeast 85 = .ok (.bipush (-9), 2) := by decide +kernel
theorem dX9_layLeast_87 : decode cX9_layLeast 87 = .ok (.if_icmp .eq 42, 3) := by decide +kernel
theorem dX9_layLeast_90 : decode cX9_layLeast 90 = .ok (.iload 6, 2) := by decide +kernel
theorem dX9_layLeast_92 : decode cX9_layLeast 92 = .ok (.aload_n 0, 1) := by decide +kernel
theorem dX9_layLeast_93 : decode cX9_layLeast 93 = .ok (.getfield 73, 3) := by decide +kernel
theorem dX9_layLeast_96 : decode cX9_layLeast 96 = .ok (.iload_n 3, 1) := by decide +kernel
theorem dX9_layLeast_97 : decode cX9_layLeast 97 = .ok (.iconst 1, 1) := by decide +kernel
theorem dX9_layLeast_98 : decode cX9_layLeast 98 = .ok (.iload 5, 2) := by decide +kernel
theorem dX9_layLeast_100 : decode cX9_layLeast 100 = .ok (.ishl, 1) := by decide +kernel
theorem dX9_layLeast_101 : decode cX9_layLeast 101 = .ok (.iconst (-1), 1) := by decide +kernel
theorem dX9_layLeast_102 : decode cX9_layLeast 102 = .ok (.ixor, 1) := by decide +kernel
theorem dX9_layLeast_103 : decode cX9_layLeast 103 = .ok (.iand, 1) := by decide +kernel
theorem dX9_layLeast_104 : decode cX9_layLeast 104 = .ok (.iaload, 1) := by decide +kernel
theorem dX9_layLeast_105 : decode cX9_layLeast 105 = .ok (.iadd, 1) := by decide +kernel
theorem dX9_layLeast_106 : decode cX9_layLeast 106 = .ok (.iload 4, 2) := by decide +kernel
theorem dX9_layLeast_108 : decode cX9_layLeast 108 = .ok (.if_icmp .ge 21, 3) := by decide +kernel
theorem dX9_layLeast_111 : decode cX9_layLeast 111 = .ok (.iload 6, 2) := by decide +kernel
theorem dX9_layLeast_113 : decode cX9_layLeast 113 = .ok (.aload_n 0, 1) := by decide +kernel
theorem dX9_layLeast_114 : decode cX9_layLeast 114 = .ok (.getfield 73, 3) := by decide +kernel
theorem dX9_layLeast_117 : decode cX9_layLeast 117 = .ok (.iload_n 3, 1) := by decide +kernel
theorem dX9_layLeast_118 : decode cX9_layLeast 118 = .ok (.iconst 1, 1) := by decide +kernel
theorem dX9_layLeast_119 : decode cX9_layLeast 119 = .ok (.iload 5, 2) := by decide +kernel
theorem dX9_layLeast_121 : decode cX9_layLeast 121 = .ok (.ishl, 1) := by decide +kernel
theorem dX9_layLeast_122 : decode cX9_layLeast 122 = .ok (.iconst (-1), 1) := by decide +kernel
theorem dX9_layLeast_123 : decode cX9_layLeast 123 = .ok (.ixor, 1) := by decide +kernel
theorem dX9_layLeast_124 : decode cX9_layLeast 124 = .ok (.iand, 1) := by decide +kernel
theorem dX9_layLeast_125 : decode cX9_layLeast 125 = .ok (.iaload, 1) := by decide +kernel
theorem dX9_layLeast_126 : decode cX9_layLeast 126 = .ok (.iadd, 1) := by decide +kernel
theorem dX9_layLeast_127 : decode cX9_layLeast 127 = .ok (.istore 4, 2) := by decide +kernel
theorem dX9_layLeast_129 : decode cX9_layLeast 129 = .ok (.iinc 5 1, 3) := by decide +kernel
theorem dX9_layLeast_132 : decode cX9_layLeast 132 = .ok (.goto (-82), 3) := by decide +kernel
theorem dX9_layLeast_135 : decode cX9_layLeast 135 = .ok (.aload_n 0, 1) := by decide +kernel
theorem dX9_layLeast_136 : decode cX9_layLeast 136 = .ok (.getfield 73, 3) := by decide +kernel
theorem dX9_layLeast_139 : decode cX9_layLeast 139 = .ok (.iload_n 1, 1) := by decide +kernel
theorem dX9_layLeast_140 : decode cX9_layLeast 140 = .ok (.iload 4, 2) := by decide +kernel
theorem dX9_layLeast_142 : decode cX9_layLeast 142 = .ok (.iastore, 1) := by decide +kernel
theorem dX9_layLeast_143 : decode cX9_layLeast 143 = .ok (.iinc 1 1, 3) := by decide +kernel
theorem dX9_layLeast_146 : decode cX9_layLeast 146 = .ok (.goto (-137), 3) := by decide +kernel
theorem dX9_layLeast_149 : decode cX9_layLeast 149 = .ok (.return_, 1) := by decide +kernel
theorem dX9_addBout_0 : decode cX9_addBout 0 = .ok (.aload_n 0, 1) := by decide +kernel
theorem dX9_addBout_1 : decode cX9_addBout 1 = .ok (.getfield 54, 3) := by decide +kernel
theorem dX9_addBout_4 : decode cX9_addBout 4 = .ok (.aload_n 0, 1) := by decide +kernel
theorem dX9_addBout_5 : decode cX9_addBout 5 = .ok (.getfield 170, 3) := by decide +kernel
theorem dX9_addBout_8 : decode cX9_addBout 8 = .ok (.aload_n 0, 1) := by decide +kernel
theorem dX9_addBout_9 : decode cX9_addBout 9 = .ok (.getfield 167, 3) := by decide +kernel
theorem dX9_addBout_12 : decode cX9_addBout 12 = .ok (.iastore, 1) := by decide +kernel
theorem dX9_addBout_13 : decode cX9_addBout 13 = .ok (.aload_n 0, 1) := by decide +kernel
theorem dX9_addBout_14 : decode cX9_addBout 14 = .ok (.getfield 57, 3) := by decide +kernel
theorem dX9_addBout_17 : decode cX9_addBout 17 = .ok (.aload_n 0, 1) := by decide +kernel
theorem dX9_addBout_18 : decode cX9_addBout 18 = .ok (.getfield 170, 3) := by decide +kernel
theorem dX9_addBout_21 : decode cX9_addBout 21 = .ok (.iload_n 1, 1) := by decide +kernel
theorem dX9_addBout_22 : decode cX9_addBout 22 = .ok (.iastore, 1) := by decide +kernel
theorem dX9_addBout_23 : decode cX9_addBout 23 = .ok (.aload_n 0, 1) := by decide +kernel
theorem dX9_addBout_24 : decode cX9_addBout 24 = .ok (.getfield 60, 3) := by decide +kernel
theorem dX9_addBout_27 : decode cX9_addBout 27 = .ok (.aload_n 0, 1) := by decide +kernel
theorem dX9_addBout_28 : decode cX9_addBout 28 = .ok (.getfield 170, 3) := by decide +kernel
theorem dX9_addBout_31 : decode cX9_addBout 31 = .ok (.iload_n 2, 1) := by decide +kernel
theorem dX9_addBout_32 : decode cX9_addBout 32 = .ok (.iastore, 1) := by decide +kernel
theorem dX9_addBout_33 : decode cX9_addBout 33 = .ok (.aload_n 0, 1) := by decide +kernel
theorem dX9_addBout_34 : decode cX9_addBout 34 = .ok (.getfield 63, 3) := by decide +kernel
theorem dX9_addBout_37 : decode cX9_addBout 37 = .ok (.aload_n 0, 1) := by decide +kernel
theorem dX9_addBout_38 : decode cX9_addBout 38 = .ok (.getfield 170, 3) := by decide +kernel
theorem dX9_addBout_41 : decode cX9_addBout 41 = .ok (.bipush (-9), 2) := by decide +kernel
theorem dX9_addBout_43 : decode cX9_addBout 43 = .ok (.iastore, 1) := by decide +kernel
theorem dX9_addBout_44 : decode cX9_addBout 44 = .ok (.aload_n 0, 1) := by decide +kernel
theorem dX9_addBout_45 : decode cX9_addBout 45 = .ok (.dup, 1) := by decide +kernel
theorem dX9_addBout_46 : decode cX9_addBout 46 = .ok (.getfield 170, 3) := by decide +kernel
theorem dX9_addBout_49 : decode cX9_addBout 49 = .ok (.iconst 1, 1) := by decide +kernel
theorem dX9_addBout_50 : decode cX9_addBout 50 = .ok (.iadd, 1) := by decide +kernel
theorem dX9_addBout_51 : decode cX9_addBout 51 = .ok (.putfield 170, 3) := by decide +kernel
theorem dX9_addBout_54 : decode cX9_addBout 54 = .ok (.aload_n 0, 1) := by decide +kernel
theorem dX9_addBout_55 : decode cX9_addBout 55 = .ok (.dup, 1) := by decide +kernel
theorem dX9_addBout_56 : decode cX9_addBout 56 = .ok (.getfield 173, 3) := by decide +kernel
theorem dX9_addBout_59 : decode cX9_addBout 59 = .ok (.iconst 1, 1) := by decide +kernel
theorem dX9_addBout_60 : decode cX9_addBout 60 = .ok (.iadd, 1) := by decide +kernel
theorem dX9_addBout_61 : decode cX9_addBout 61 = .ok (.putfield 173, 3) := by decide +kernel
theorem dX9_addBout_64 : decode cX9_addBout 64 = .ok (.return_, 1) := by decide +kernel
theorem dX9_draw_0 : decode cX9_draw 0 = .ok (.aload_n 0, 1) := by decide +kernel
theorem dX9_draw_1 : decode cX9_draw 1 = .ok (.getfield 132, 3) := by decide +kernel
theorem dX9_draw_4 : decode cX9_draw 4 = .ok (.ifCond .eq 21, 3) := by decide +kernel
theorem dX9_draw_7 : decode cX9_draw 7 = .ok (.aload_n 0, 1) := by decide +kernel
theorem dX9_draw_8 : decode cX9_draw 8 = .ok (.getfield 173, 3) := by decide +kernel
theorem dX9_draw_11 : decode cX9_draw 11 = .ok (.ifCond .gt 14, 3) := by decide +kernel
theorem dX9_draw_14 : decode cX9_draw 14 = .ok (.aload_n 0, 1) := by decide +kernel
theorem dX9_draw_15 : decode cX9_draw 15 = .ok (.getfield 167, 3) := by decide +kernel
theorem dX9_draw_18 : decode cX9_draw 18 = .ok (.aload_n 0, 1) := by decide +kernel
theorem dX9_draw_19 : decode cX9_draw 19 = .ok (.getfield 164, 3) := by decide +kernel
theorem dX9_draw_22 : decode cX9_draw 22 = .ok (.if_icmp .ne 6, 3) := by decide +kernel
theorem dX9_draw_25 : decode cX9_draw 25 = .ok (.bipush (-4), 2) := by decide +kernel
theorem dX9_draw_27 : decode cX9_draw 27 = .ok (.ireturn, 1) := by decide +kernel
theorem dX9_draw_28 : decode cX9_draw 28 = .ok (.aload_n 0, 1) := by decide +kernel
theorem dX9_draw_29 : decode cX9_draw 29 = .ok (.invokevirtual 188, 3) := by decide +kernel
theorem dX9_draw_32 : decode cX9_draw 32 = .ok (.aload_n 0, 1) := by decide +kernel
theorem dX9_draw_33 : decode cX9_draw 33 = .ok (.invokevirtual 191, 3) := by decide +kernel
theorem dX9_draw_36 : decode cX9_draw 36 = .ok (.iconst 1, 1) := by decide +kernel
theorem dX9_draw_37 : decode cX9_draw 37 = .ok (.aload_n 0, 1) := by decide +kernel
theorem dX9_draw_38 : decode cX9_draw 38 = .ok (.getfield 182, 3) := by decide +kernel
theorem dX9_draw_41 : decode cX9_draw 41 = .ok (.ishl, 1) := by decide +kernel
theorem dX9_draw_42 : decode cX9_draw 42 = .ok (.iconst 1, 1) := by decide +kernel
theorem dX9_draw_43 : decode cX9_draw 43 = .ok (.isub, 1) := by decide +kernel
theorem dX9_draw_44 : decode cX9_draw 44 = .ok (.istore_n 1, 1) := by decide +kernel
theorem dX9_draw_45 : decode cX9_draw 45 = .ok (.aload_n 0, 1) := by decide +kernel
theorem dX9_draw_46 : decode cX9_draw 46 = .ok (.aload_n 0, 1) := by decide +kernel
theorem dX9_draw_47 : decode cX9_draw 47 = .ok (.getfield 73, 3) := by decide +kernel
theorem dX9_draw_50 : decode cX9_draw 50 = .ok (.iload_n 1, 1) := by decide +kernel
theorem dX9_draw_51 : decode cX9_draw 51 = .ok (.iaload, 1) := by decide +kernel
theorem dX9_draw_52 : decode cX9_draw 52 = .ok (.putfield 194, 3) := by decide +kernel
theorem dX9_draw_55 : decode cX9_draw 55 = .ok (.aload_n 0, 1) := by decide +kernel
theorem dX9_draw_56 : decode cX9_draw 56 = .ok (.iconst 0, 1) := by decide +kernel
theorem dX9_draw_57 : decode cX9_draw 57 = .ok (.putfield 197, 3) := by decide +kernel
theorem dX9_draw_60 : decode cX9_draw 60 = .ok (.iconst 0, 1) := by decide +kernel
theorem dX9_draw_61 : decode cX9_draw 61 = .ok (.istore_n 2, 1) := by decide +kernel
theorem dX9_draw_62 : decode cX9_draw 62 = .ok (.iload_n 1, 1) := by decide +kernel
theorem dX9_draw_63 : decode cX9_draw 63 = .ok (.ifCond .eq 179, 3) := by decide +kernel
theorem dX9_draw_66 : decode cX9_draw 66 = .ok (.aload_n 0, 1) := by decide +kernel
theorem dX9_draw_67 : decode cX9_draw 67 = .ok (.iload_n 1, 1) := by decide +kernel
theorem dX9_draw_68 : decode cX9_draw 68 = .ok (.invokevirtual 185, 3) := by decide +kernel
theorem dX9_draw_71 : decode cX9_draw 71 = .ok (.istore_n 3, 1) := by decide +kernel
theorem dX9_draw_72 : decode cX9_draw 72 = .ok (.iload_n 1, 1) := by decide +kernel
theorem dX9_draw_73 : decode cX9_draw 73 = .ok (.iconst 1, 1) := by decide +kernel
theorem dX9_draw_74 : decode cX9_draw 74 = .ok (.iload_n 3, 1) := by decide +kernel
theorem dX9_draw_75 : decode cX9_draw 75 = .ok (.ishl, 1) := by decide +kernel
theorem dX9_draw_76 : decode cX9_draw 76 = .ok (.iconst (-1), 1) := by decide +kernel
theorem dX9_draw_77 : decode cX9_draw 77 = .ok (.ixor, 1) := by decide +kernel
theorem dX9_draw_78 : decode cX9_draw 78 = .ok (.iand, 1) := by decide +kernel
theorem dX9_draw_79 : decode cX9_draw 79 = .ok (.istore 4, 2) := by decide +kernel
theorem dX9_draw_81 : decode cX9_draw 81 = .ok (.bipush (-9), 2) := by decide +kernel
theorem dX9_draw_83 : decode cX9_draw 83 = .ok (.istore 5, 2) := by decide +kernel
theorem dX9_draw_85 : decode cX9_draw 85 = .ok (.iload_n 3, 1) := by decide +kernel
theorem dX9_draw_86 : decode cX9_draw 86 = .ok (.iconst 1, 1) := by decide +kernel
theorem dX9_draw_87 : decode cX9_draw 87 = .ok (.iadd, 1) := by decide +kernel
theorem dX9_draw_88 : decode cX9_draw 88 = .ok (.istore 6, 2) := by decide +kernel
theorem dX9_draw_90 : decode cX9_draw 90 = .ok (.iload 6, 2) := by decide +kernel
theorem dX9_draw_92 : decode cX9_draw 92 = .ok (.aload_n 0, 1) := by decide +kernel
theorem dX9_draw_93 : decode cX9_draw 93 = .ok (.getfield 182, 3) := by decide +kernel
theorem dX9_draw_96 : decode cX9_draw 96 = .ok (.if_icmp .ge 83, 3) := by decide +kernel
theorem dX9_draw_99 : decode cX9_draw 99 = .ok (.iload 5, 2) := by decide +kernel
theorem dX9_draw_101 : decode cX9_draw 101 = .ok (.bipush (-9), 2) := by decide +kernel
theorem dX9_draw_103 : decode cX9_draw 103 = .ok (.if_icmp .ne 76, 3) := by decide +kernel
theorem dX9_draw_106 : decode cX9_draw 106 = .ok (.aload_n 0, 1) := by decide +kernel
theorem dX9_draw_107 : decode cX9_draw 107 = .ok (.getfield 69, 3) := by decide +kernel
theorem dX9_draw_110 : decode cX9_draw 110 = .ok (.bipush 16, 2) := by decide +kernel
theorem dX9_draw_112 : decode cX9_draw 112 = .ok (.iload_n 3, 1) := by decide +kernel
theorem dX9_draw_113 : decode cX9_draw 113 = .ok (.imul, 1) := by decide +kernel
theorem dX9_draw_114 : decode cX9_draw 114 = .ok (.iload 6, 2) := by decide +kernel
theorem dX9_draw_116 : decode cX9_draw 116 = .ok (.iadd, 1) := by decide +kernel
theorem dX9_draw_117 : decode cX9_draw 117 = .ok (.iaload, 1) := by decide +kernel
theorem dX9_draw_118 : decode cX9_draw 118 = .ok (.istore 7, 2) := by decide +kernel
theorem dX9_draw_120 : decode cX9_draw 120 = .ok (.iload 4, 2) := by decide +kernel
theorem dX9_draw_122 : decode cX9_draw 122 = .ok (.iload 6, 2) := by decide +kernel
theorem dX9_draw_124 : decode cX9_draw 124 = .ok (.ishr, 1) := by decide +kernel
theorem dX9_draw_125 : decode cX9_draw 125 = .ok (.iconst 1, 1) := by decide +kernel
theorem dX9_draw_126 : decode cX9_draw 126 = .ok (.iand, 1) := by decide +kernel
theorem dX9_draw_127 : decode cX9_draw 127 = .ok (.iconst 1, 1) := by decide +kernel
theorem dX9_draw_128 : decode cX9_draw 128 = .ok (.if_icmp .ne 41, 3) := by decide +kernel
theorem dX9_draw_131 : decode cX9_draw 131 = .ok (.iload 7, 2) := by decide +kernel
theorem dX9_draw_133 : decode cX9_draw 133 = .ok (.bipush (-9), 2) := by decide +kernel
theorem dX9_draw_135 : decode cX9_draw 135 = .ok (.if_icmp .eq 34, 3) := by decide +kernel
theorem dX9_draw_138 : decode cX9_draw 138 = .ok (.iload 7, 2) := by decide +kernel
theorem dX9_draw_140 : decode cX9_draw 140 = .ok (.aload_n 0, 1) := by decide +kernel
theorem dX9_draw_141 : decode cX9_draw 141 = .ok (.getfield 73, 3) := by decide +kernel
theorem dX9_draw_144 : decode cX9_draw 144 = .ok (.iload 4, 2) := by decide +kernel
theorem dX9_draw_146 : decode cX9_draw 146 = .ok (.iconst 1, 1) := by decide +kernel
theorem dX9_draw_147 : decode cX9_draw 147 = .ok (.iload 6, 2) := by decide +kernel
theorem dX9_draw_149 : decode cX9_draw 149 = .ok (.ishl, 1) := by decide +kernel
theorem dX9_draw_150 : decode cX9_draw 150 = .ok (.iconst (-1), 1) := by decide +kernel
theorem dX9_draw_151 : decode cX9_draw 151 = .ok (.ixor, 1) := by decide +kernel
theorem dX9_draw_152 : decode cX9_draw 152 = .ok (.iand, 1) := by decide +kernel
theorem dX9_draw_153 : decode cX9_draw 153 = .ok (.iaload, 1) := by decide +kernel
theorem dX9_draw_154 : decode cX9_draw 154 = .ok (.iadd, 1) := by decide +kernel
theorem dX9_draw_155 : decode cX9_draw 155 = .ok (.aload_n 0, 1) := by decide +kernel
theorem dX9_draw_156 : decode cX9_draw 156 = .ok (.getfield 73, 3) := by decide +kernel
theorem dX9_draw_159 : decode cX9_draw 159 = .ok (.iload_n 1, 1) := by decide +kernel
theorem dX9_draw_160 : decode cX9_draw 160 = .ok (.iaload, 1) := by decide +kernel
theorem dX9_draw_161 : decode cX9_draw 161 = .ok (.if_icmp .ne 8, 3) := by decide +kernel
theorem dX9_draw_164 : decode cX9_draw 164 = .ok (.iload 6, 2) := by decide +kernel
theorem dX9_draw_166 : decode cX9_draw 166 = .ok (.goto 5, 3) := by decide +kernel
theorem dX9_draw_169 : decode cX9_draw 169 = .ok (.bipush (-9), 2) := by decide +kernel
theorem dX9_draw_171 : decode cX9_draw 171 = .ok (.istore 5, 2) := by decide +kernel
theorem dX9_draw_173 : decode cX9_draw 173 = .ok (.iinc 6 1, 3) := by decide +kernel
theorem dX9_draw_176 : decode cX9_draw 176 = .ok (.goto (-86), 3) := by decide +kernel
theorem dX9_draw_179 : decode cX9_draw 179 = .ok (.iload 5, 2) := by decide +kernel
theorem dX9_draw_181 : decode cX9_draw 181 = .ok (.bipush (-9), 2) := by decide +kernel
theorem dX9_draw_183 : decode cX9_draw 183 = .ok (.if_icmp .ne 26, 3) := by decide +kernel
theorem dX9_draw_186 : decode cX9_draw 186 = .ok (.aload_n 0, 1) := by decide +kernel
theorem dX9_draw_187 : decode cX9_draw 187 = .ok (.dup, 1) := by decide +kernel
theorem dX9_draw_188 : decode cX9_draw 188 = .ok (.getfield 197, 3) := by decide +kernel
theorem dX9_draw_191 : decode cX9_draw 191 = .ok (.iconst 1, 1) := by decide +kernel
theorem dX9_draw_192 : decode cX9_draw 192 = .ok (.aload_n 0, 1) := by decide +kernel
theorem dX9_draw_193 : decode cX9_draw 193 = .ok (.getfield 66, 3) := by decide +kernel
theorem dX9_draw_196 : decode cX9_draw 196 = .ok (.iload_n 3, 1) := by decide +kernel
theorem dX9_draw_197 : decode cX9_draw 197 = .ok (.iaload, 1) := by decide +kernel
theorem dX9_draw_198 : decode cX9_draw 198 = .ok (.ishl, 1) := by decide +kernel
theorem dX9_draw_199 : decode cX9_draw 199 = .ok (.ior, 1) := by decide +kernel
theorem dX9_draw_200 : decode cX9_draw 200 = .ok (.putfield 197, 3) := by decide +kernel
theorem dX9_draw_203 : decode cX9_draw 203 = .ok (.iload 4, 2) := by decide +kernel
theorem dX9_draw_205 : decode cX9_draw 205 = .ok (.istore_n 1, 1) := by decide +kernel
theorem dX9_draw_206 : decode cX9_draw 206 = .ok (.goto 33, 3) := by decide +kernel
theorem dX9_draw_209 : decode cX9_draw 209 = .ok (.aload_n 0, 1) := by decide +kernel
theorem dX9_draw_210 : decode cX9_draw 210 = .ok (.aload_n 0, 1) := by decide +kernel
theorem dX9_draw_211 : decode cX9_draw 211 = .ok (.getfield 66, 3) := by decide +kernel
theorem dX9_draw_214 : decode cX9_draw 214 = .ok (.iload_n 3, 1) := by decide +kernel
theorem dX9_draw_215 : decode cX9_draw 215 = .ok (.iaload, 1) := by decide +kernel
theorem dX9_draw_216 : decode cX9_draw 216 = .ok (.aload_n 0, 1) := by decide +kernel
theorem dX9_draw_217 : decode cX9_draw 217 = .ok (.getfield 66, 3) := by decide +kernel
theorem dX9_draw_220 : decode cX9_draw 220 = .ok (.iload 5, 2) := by decide +kernel
theorem dX9_draw_222 : decode cX9_draw 222 = .ok (.iaload, 1) := by decide +kernel
theorem dX9_draw_223 : decode cX9_draw 223 = .ok (.invokevirtual 200, 3) := by decide +kernel
theorem dX9_draw_226 : decode cX9_draw 226 = .ok (.iinc 2 1, 3) := by decide +kernel
theorem dX9_draw_229 : decode cX9_draw 229 = .ok (.iload 4, 2) := by decide +kernel
theorem dX9_draw_231 : decode cX9_draw 231 = .ok (.iconst 1, 1) := by decide +kernel
theorem dX9_draw_232 : decode cX9_draw 232 = .ok (.iload 5, 2) := by decide +kernel
theorem dX9_draw_234 : decode cX9_draw 234 = .ok (.ishl, 1) := by decide +kernel
theorem dX9_draw_235 : decode cX9_draw 235 = .ok (.iconst (-1), 1) := by decide +kernel
theorem dX9_draw_236 : decode cX9_draw 236 = .ok (.ixor, 1) := by decide +kernel
theorem dX9_draw_237 : decode cX9_draw 237 = .ok (.iand, 1) := by decide +kernel
theorem dX9_draw_238 : decode cX9_draw 238 = .ok (.istore_n 1, 1) := by decide +kernel
theorem dX9_draw_239 : decode cX9_draw 239 = .ok (.goto (-177), 3) := by decide +kernel
theorem dX9_draw_242 : decode cX9_draw 242 = .ok (.iconst 0, 1) := by decide +kernel
theorem dX9_draw_243 : decode cX9_draw 243 = .ok (.istore_n 3, 1) := by decide +kernel
theorem dX9_draw_244 : decode cX9_draw 244 = .ok (.iload_n 3, 1) := by decide +kernel
theorem dX9_draw_245 : decode cX9_draw 245 = .ok (.aload_n 0, 1) := by decide +kernel
theorem dX9_draw_246 : decode cX9_draw 246 = .ok (.getfield 126, 3) := by decide +kernel
theorem dX9_draw_249 : decode cX9_draw 249 = .ok (.if_icmp .ge 42, 3) := by decide +kernel
theorem dX9_draw_252 : decode cX9_draw 252 = .ok (.aload_n 0, 1) := by decide +kernel
theorem dX9_draw_253 : decode cX9_draw 253 = .ok (.getfield 32, 3) := by decide +kernel
theorem dX9_draw_256 : decode cX9_draw 256 = .ok (.aload_n 0, 1) := by decide +kernel
theorem dX9_draw_257 : decode cX9_draw 257 = .ok (.getfield 41, 3) := by decide +kernel
theorem dX9_draw_260 : decode cX9_draw 260 = .ok (.iload_n 3, 1) := by decide +kernel
theorem dX9_draw_261 : decode cX9_draw 261 = .ok (.iaload, 1) := by decide +kernel
theorem dX9_draw_262 : decode cX9_draw 262 = .ok (.dup2, 1) := by decide +kernel
theorem dX9_draw_263 : decode cX9_draw 263 = .ok (.iaload, 1) := by decide +kernel
theorem dX9_draw_264 : decode cX9_draw 264 = .ok (.aload_n 0, 1) := by decide +kernel
theorem dX9_draw_265 : decode cX9_draw 265 = .ok (.getfield 26, 3) := by decide +kernel
theorem dX9_draw_268 : decode cX9_draw 268 = .ok (.aload_n 0, 1) := by decide +kernel
theorem dX9_draw_269 : decode cX9_draw 269 = .ok (.getfield 41, 3) := by decide +kernel
theorem dX9_draw_272 : decode cX9_draw 272 = .ok (.iload_n 3, 1) := by decide +kernel
theorem dX9_draw_273 : decode cX9_draw 273 = .ok (.iaload, 1) := by decide +kernel
theorem dX9_draw_274 : decode cX9_draw 274 = .ok (.baload, 1) := by decide +kernel
theorem dX9_draw_275 : decode cX9_draw 275 = .ok (.ifCond .eq 7, 3) := by decide +kernel
theorem dX9_draw_278 : decode cX9_draw 278 = .ok (.iconst 1, 1) := by decide +kernel
theorem dX9_draw_279 : decode cX9_draw 279 = .ok (.goto 4, 3) := by decide +kernel
theorem dX9_draw_282 : decode cX9_draw 282 = .ok (.iconst 0, 1) := by decide +kernel
theorem dX9_draw_283 : decode cX9_draw 283 = .ok (.iadd, 1) := by decide +kernel
theorem dX9_draw_284 : decode cX9_draw 284 = .ok (.iastore, 1) := by decide +kernel
theorem dX9_draw_285 : decode cX9_draw 285 = .ok (.iinc 3 1, 3) := by decide +kernel
theorem dX9_draw_288 : decode cX9_draw 288 = .ok (.goto (-44), 3) := by decide +kernel
theorem dX9_draw_291 : decode cX9_draw 291 = .ok (.aload_n 0, 1) := by decide +kernel
theorem dX9_draw_292 : decode cX9_draw 292 = .ok (.dup, 1) := by decide +kernel
theorem dX9_draw_293 : decode cX9_draw 293 = .ok (.getfield 167, 3) := by decide +kernel
theorem dX9_draw_296 : decode cX9_draw 296 = .ok (.iconst 1, 1) := by decide +kernel
theorem dX9_draw_297 : decode cX9_draw 297 = .ok (.iadd, 1) := by decide +kernel
theorem dX9_draw_298 : decode cX9_draw 298 = .ok (.putfield 167, 3) := by decide +kernel
theorem dX9_draw_301 : decode cX9_draw 301 = .ok (.iload_n 2, 1) := by decide +kernel
theorem dX9_draw_302 : decode cX9_draw 302 = .ok (.ireturn, 1) := by decide +kernel
theorem dX9_cost_0 : decode cX9_cost 0 = .ok (.aload_n 0, 1) := by decide +kernel
theorem dX9_cost_1 : decode cX9_cost 1 = .ok (.getfield 194, 3) := by decide +kernel
theorem dX9_cost_4 : decode cX9_cost 4 = .ok (.ireturn, 1) := by decide +kernel
theorem dX9_result_0 : decode cX9_result 0 = .ok (.iload_n 1, 1) := by decide +kernel
theorem dX9_result_1 : decode cX9_result 1 = .ok (.iconst 0, 1) := by decide +kernel
theorem dX9_result_2 : decode cX9_result 2 = .ok (.aload_n 0, 1) := by decide +kernel
theorem dX9_result_3 : decode cX9_result 3 = .ok (.getfield 170, 3) := by decide +kernel
theorem dX9_result_6 : decode cX9_result 6 = .ok (.iconst 1, 1) := by decide +kernel
theorem dX9_result_7 : decode cX9_result 7 = .ok (.isub, 1) := by decide +kernel
theorem dX9_result_8 : decode cX9_result 8 = .ok (.invokestatic 122, 3) := by decide +kernel
theorem dX9_result_11 : decode cX9_result 11 = .ok (.ifCond .ne 5, 3) := by decide +kernel
theorem dX9_result_14 : decode cX9_result 14 = .ok (.iconst (-1), 1) := by decide +kernel
theorem dX9_result_15 : decode cX9_result 15 = .ok (.ireturn, 1) := by decide +kernel
theorem dX9_result_16 : decode cX9_result 16 = .ok (.aload_n 0, 1) := by decide +kernel
theorem dX9_result_17 : decode cX9_result 17 = .ok (.getfield 63, 3) := by decide +kernel
theorem dX9_result_20 : decode cX9_result 20 = .ok (.iload_n 1, 1) := by decide +kernel
theorem dX9_result_21 : decode cX9_result 21 = .ok (.iaload, 1) := by decide +kernel
theorem dX9_result_22 : decode cX9_result 22 = .ok (.bipush (-9), 2) := by decide +kernel
theorem dX9_result_24 : decode cX9_result 24 = .ok (.if_icmp .eq 6, 3) := by decide +kernel
theorem dX9_result_27 : decode cX9_result 27 = .ok (.bipush (-4), 2) := by decide +kernel
theorem dX9_result_29 : decode cX9_result 29 = .ok (.ireturn, 1) := by decide +kernel
theorem dX9_result_30 : decode cX9_result 30 = .ok (.aload_n 0, 1) := by decide +kernel
theorem dX9_result_31 : decode cX9_result 31 = .ok (.getfield 63, 3) := by decide +kernel
theorem dX9_result_34 : decode cX9_result 34 = .ok (.iload_n 1, 1) := by decide +kernel
theorem dX9_result_35 : decode cX9_result 35 = .ok (.iload_n 2, 1) := by decide +kernel
theorem dX9_result_36 : decode cX9_result 36 = .ok (.ifCond .eq 12, 3) := by decide +kernel
theorem dX9_result_39 : decode cX9_result 39 = .ok (.aload_n 0, 1) := by decide +kernel
theorem dX9_result_40 : decode cX9_result 40 = .ok (.getfield 57, 3) := by decide +kernel
theorem dX9_result_43 : decode cX9_result 43 = .ok (.iload_n 1, 1) := by decide +kernel
theorem dX9_result_44 : decode cX9_result 44 = .ok (.iaload, 1) := by decide +kernel
theorem dX9_result_45 : decode cX9_result 45 = .ok (.goto 9, 3) := by decide +kernel
theorem dX9_result_48 : decode cX9_result 48 = .ok (.aload_n 0, 1) := by decide +kernel
theorem dX9_result_49 : decode cX9_result 49 = .ok (.getfield 60, 3) := by decide +kernel
theorem dX9_result_52 : decode cX9_result 52 = .ok (.iload_n 1, 1) := by decide +kernel
theorem dX9_result_53 : decode cX9_result 53 = .ok (.iaload, 1) := by decide +kernel
theorem dX9_result_54 : decode cX9_result 54 = .ok (.iastore, 1) := by decide +kernel
theorem dX9_result_55 : decode cX9_result 55 = .ok (.aload_n 0, 1) := by decide +kernel
theorem dX9_result_56 : decode cX9_result 56 = .ok (.getfield 29, 3) := by decide +kernel
theorem dX9_result_59 : decode cX9_result 59 = .ok (.aload_n 0, 1) := by decide +kernel
theorem dX9_result_60 : decode cX9_result 60 = .ok (.getfield 63, 3) := by decide +kernel
theorem dX9_result_63 : decode cX9_result 63 = .ok (.iload_n 1, 1) := by decide +kernel
theorem dX9_result_64 : decode cX9_result 64 = .ok (.iaload, 1) := by decide +kernel
theorem dX9_result_65 : decode cX9_result 65 = .ok (.dup2, 1) := by decide +kernel
theorem dX9_result_66 : decode cX9_result 66 = .ok (.iaload, 1) := by decide +kernel
theorem dX9_result_67 : decode cX9_result 67 = .ok (.iconst 1, 1) := by decide +kernel
theorem dX9_result_68 : decode cX9_result 68 = .ok (.iadd, 1) := by decide +kernel
theorem dX9_result_69 : decode cX9_result 69 = .ok (.iastore, 1) := by decide +kernel
theorem dX9_result_70 : decode cX9_result 70 = .ok (.aload_n 0, 1) := by decide +kernel
theorem dX9_result_71 : decode cX9_result 71 = .ok (.getfield 32, 3) := by decide +kernel
theorem dX9_result_74 : decode cX9_result 74 = .ok (.iload_n 2, 1) := by decide +kernel
theorem dX9_result_75 : decode cX9_result 75 = .ok (.ifCond .eq 12, 3) := by decide +kernel
theorem dX9_result_78 : decode cX9_result 78 = .ok (.aload_n 0, 1) := by decide +kernel
theorem dX9_result_79 : decode cX9_result 79 = .ok (.getfield 60, 3) := by decide +kernel
theorem dX9_result_82 : decode cX9_result 82 = .ok (.iload_n 1, 1) := by decide +kernel
theorem dX9_result_83 : decode cX9_result 83 = .ok (.iaload, 1) := by decide +kernel
theorem dX9_result_84 : decode cX9_result 84 = .ok (.goto 9, 3) := by decide +kernel
theorem dX9_result_87 : decode cX9_result 87 = .ok (.aload_n 0, 1) := by decide +kernel
theorem dX9_result_88 : decode cX9_result 88 = .ok (.getfield 57, 3) := by decide +kernel
theorem dX9_result_91 : decode cX9_result 91 = .ok (.iload_n 1, 1) := by decide +kernel
theorem dX9_result_92 : decode cX9_result 92 = .ok (.iaload, 1) := by decide +kernel
theorem dX9_result_93 : decode cX9_result 93 = .ok (.dup2, 1) := by decide +kernel
theorem dX9_result_94 : decode cX9_result 94 = .ok (.iaload, 1) := by decide +kernel
theorem dX9_result_95 : decode cX9_result 95 = .ok (.iconst 1, 1) := by decide +kernel
theorem dX9_result_96 : decode cX9_result 96 = .ok (.iadd, 1) := by decide +kernel
theorem dX9_result_97 : decode cX9_result 97 = .ok (.iastore, 1) := by decide +kernel
theorem dX9_result_98 : decode cX9_result 98 = .ok (.aload_n 0, 1) := by decide +kernel
theorem dX9_result_99 : decode cX9_result 99 = .ok (.dup, 1) := by decide +kernel
theorem dX9_result_100 : decode cX9_result 100 = .ok (.getfield 173, 3) := by decide +kernel
theorem dX9_result_103 : decode cX9_result 103 = .ok (.iconst 1, 1) := by decide +kernel
theorem dX9_result_104 : decode cX9_result 104 = .ok (.isub, 1) := by decide +kernel
theorem dX9_result_105 : decode cX9_result 105 = .ok (.putfield 173, 3) := by decide +kernel
theorem dX9_result_108 : decode cX9_result 108 = .ok (.iconst 1, 1) := by decide +kernel
theorem dX9_result_109 : decode cX9_result 109 = .ok (.ireturn, 1) := by decide +kernel
theorem dX9_boutTold_0 : decode cX9_boutTold 0 = .ok (.iload_n 2, 1) := by decide +kernel
theorem dX9_boutTold_1 : decode cX9_boutTold 1 = .ok (.ifCond .ne 12, 3) := by decide +kernel
theorem dX9_boutTold_4 : decode cX9_boutTold 4 = .ok (.aload_n 0, 1) := by decide +kernel
theorem dX9_boutTold_5 : decode cX9_boutTold 5 = .ok (.getfield 54, 3) := by decide +kernel
theorem dX9_boutTold_8 : decode cX9_boutTold 8 = .ok (.iload_n 1, 1) := by decide +kernel
theorem dX9_boutTold_9 : decode cX9_boutTold 9 = .ok (.iaload, 1) := by decide +kernel
theorem dX9_boutTold_10 : decode cX9_boutTold 10 = .ok (.goto 37, 3) := by decide +kernel
theorem dX9_boutTold_13 : decode cX9_boutTold 13 = .ok (.iload_n 2, 1) := by decide +kernel
theorem dX9_boutTold_14 : decode cX9_boutTold 14 = .ok (.iconst 1, 1) := by decide +kernel
theorem dX9_boutTold_15 : decode cX9_boutTold 15 = .ok (.if_icmp .ne 12, 3) := by decide +kernel
theorem dX9_boutTold_18 : decode cX9_boutTold 18 = .ok (.aload_n 0, 1) := by decide +kernel
theorem dX9_boutTold_19 : decode cX9_boutTold 19 = .ok (.getfield 57, 3) := by decide +kernel
theorem dX9_boutTold_22 : decode cX9_boutTold 22 = .ok (.iload_n 1, 1) := by decide +kernel
theorem dX9_boutTold_23 : decode cX9_boutTold 23 = .ok (.iaload, 1) := by decide +kernel
theorem dX9_boutTold_24 : decode cX9_boutTold 24 = .ok (.goto 23, 3) := by decide +kernel
theorem dX9_boutTold_27 : decode cX9_boutTold 27 = .ok (.iload_n 2, 1) := by decide +kernel
theorem dX9_boutTold_28 : decode cX9_boutTold 28 = .ok (.iconst 2, 1) := by decide +kernel
theorem dX9_boutTold_29 : decode cX9_boutTold 29 = .ok (.if_icmp .ne 12, 3) := by decide +kernel
theorem dX9_boutTold_32 : decode cX9_boutTold 32 = .ok (.aload_n 0, 1) := by decide +kernel
theorem dX9_boutTold_33 : decode cX9_boutTold 33 = .ok (.getfield 60, 3) := by decide +kernel
theorem dX9_boutTold_36 : decode cX9_boutTold 36 = .ok (.iload_n 1, 1) := by decide +kernel
theorem dX9_boutTold_37 : decode cX9_boutTold 37 = .ok (.iaload, 1) := by decide +kernel
theorem dX9_boutTold_38 : decode cX9_boutTold 38 = .ok (.goto 9, 3) := by decide +kernel
theorem dX9_boutTold_41 : decode cX9_boutTold 41 = .ok (.aload_n 0, 1) := by decide +kernel
theorem dX9_boutTold_42 : decode cX9_boutTold 42 = .ok (.getfield 63, 3) := by decide +kernel
theorem dX9_boutTold_45 : decode cX9_boutTold 45 = .ok (.iload_n 1, 1) := by decide +kernel
theorem dX9_boutTold_46 : decode cX9_boutTold 46 = .ok (.iaload, 1) := by decide +kernel
theorem dX9_boutTold_47 : decode cX9_boutTold 47 = .ok (.ireturn, 1) := by decide +kernel
theorem dX9_bout_0 : decode cX9_bout 0 = .ok (.iload_n 1, 1) := by decide +kernel
theorem dX9_bout_1 : decode cX9_bout 1 = .ok (.iconst 0, 1) := by decide +kernel
theorem dX9_bout_2 : decode cX9_bout 2 = .ok (.aload_n 0, 1) := by decide +kernel
theorem dX9_bout_3 : decode cX9_bout 3 = .ok (.getfield 170, 3) := by decide +kernel
theorem dX9_bout_6 : decode cX9_bout 6 = .ok (.iconst 1, 1) := by decide +kernel
theorem dX9_bout_7 : decode cX9_bout 7 = .ok (.isub, 1) := by decide +kernel
theorem dX9_bout_8 : decode cX9_bout 8 = .ok (.invokestatic 122, 3) := by decide +kernel
theorem dX9_bout_11 : decode cX9_bout 11 = .ok (.ifCond .eq 21, 3) := by decide +kernel
theorem dX9_bout_14 : decode cX9_bout 14 = .ok (.iload_n 2, 1) := by decide +kernel
theorem dX9_bout_15 : decode cX9_bout 15 = .ok (.iconst 0, 1) := by decide +kernel
theorem dX9_bout_16 : decode cX9_bout 16 = .ok (.iconst 3, 1) := by decide +kernel
theorem dX9_bout_17 : decode cX9_bout 17 = .ok (.invokestatic 122, 3) := by decide +kernel
theorem dX9_bout_20 : decode cX9_bout 20 = .ok (.ifCond .eq 12, 3) := by decide +kernel
theorem dX9_bout_23 : decode cX9_bout 23 = .ok (.aload_n 0, 1) := by decide +kernel
theorem dX9_bout_24 : decode cX9_bout 24 = .ok (.iload_n 1, 1) := by decide +kernel
theorem dX9_bout_25 : decode cX9_bout 25 = .ok (.iload_n 2, 1) := by decide +kernel
theorem dX9_bout_26 : decode cX9_bout 26 = .ok (.invokevirtual 204, 3) := by decide +kernel
theorem dX9_bout_29 : decode cX9_bout 29 = .ok (.goto 4, 3) := by decide +kernel
theorem dX9_bout_32 : decode cX9_bout 32 = .ok (.iconst (-1), 1) := by decide +kernel
theorem dX9_bout_33 : decode cX9_bout 33 = .ok (.ireturn, 1) := by decide +kernel
theorem dX9_sat_0 : decode cX9_sat 0 = .ok (.aload_n 0, 1) := by decide +kernel
theorem dX9_sat_1 : decode cX9_sat 1 = .ok (.getfield 197, 3) := by decide +kernel
theorem dX9_sat_4 : decode cX9_sat 4 = .ok (.ireturn, 1) := by decide +kernel
theorem dX9_line_0 : decode cX9_line 0 = .ok (.iload_n 1, 1) := by decide +kernel
theorem dX9_line_1 : decode cX9_line 1 = .ok (.iload_n 2, 1) := by decide +kernel
theorem dX9_line_2 : decode cX9_line 2 = .ok (.if_icmp .gt 14, 3) := by decide +kernel
theorem dX9_line_5 : decode cX9_line 5 = .ok (.iload_n 3, 1) := by decide +kernel
theorem dX9_line_6 : decode cX9_line 6 = .ok (.bipush (-15), 2) := by decide +kernel
theorem dX9_line_8 : decode cX9_line 8 = .ok (.bipush 15, 2) := by decide +kernel
theorem dX9_line_10 : decode cX9_line 10 = .ok (.invokestatic 122, 3) := by decide +kernel
theorem dX9_line_13 : decode cX9_line 13 = .ok (.ifCond .ne 5, 3) := by decide +kernel
theorem dX9_line_16 : decode cX9_line 16 = .ok (.iconst (-1), 1) := by decide +kernel
theorem dX9_line_17 : decode cX9_line 17 = .ok (.ireturn, 1) := by decide +kernel
theorem dX9_line_18 : decode cX9_line 18 = .ok (.aload_n 0, 1) := by decide +kernel
theorem dX9_line_19 : decode cX9_line 19 = .ok (.getfield 207, 3) := by decide +kernel
theorem dX9_line_22 : decode cX9_line 22 = .ok (.bipush 12, 2) := by decide +kernel
theorem dX9_line_24 : decode cX9_line 24 = .ok (.if_icmp .ne 6, 3) := by decide +kernel
theorem dX9_line_27 : decode cX9_line 27 = .ok (.bipush (-2), 2) := by decide +kernel
theorem dX9_line_29 : decode cX9_line 29 = .ok (.ireturn, 1) := by decide +kernel
theorem dX9_line_30 : decode cX9_line 30 = .ok (.aload_n 0, 1) := by decide +kernel
theorem dX9_line_31 : decode cX9_line 31 = .ok (.getfield 76, 3) := by decide +kernel
theorem dX9_line_34 : decode cX9_line 34 = .ok (.aload_n 0, 1) := by decide +kernel
theorem dX9_line_35 : decode cX9_line 35 = .ok (.getfield 207, 3) := by decide +kernel
theorem dX9_line_38 : decode cX9_line 38 = .ok (.iload_n 1, 1) := by decide +kernel
theorem dX9_line_39 : decode cX9_line 39 = .ok (.iastore, 1) := by decide +kernel
theorem dX9_line_40 : decode cX9_line 40 = .ok (.aload_n 0, 1) := by decide +kernel
theorem dX9_line_41 : decode cX9_line 41 = .ok (.getfield 79, 3) := by decide +kernel
theorem dX9_line_44 : decode cX9_line 44 = .ok (.aload_n 0, 1) := by decide +kernel
theorem dX9_line_45 : decode cX9_line 45 = .ok (.getfield 207, 3) := by decide +kernel
theorem dX9_line_48 : decode cX9_line 48 = .ok (.iload_n 2, 1) := by decide +kernel
theorem dX9_line_49 : decode cX9_line 49 = .ok (.iastore, 1) := by decide +kernel
theorem dX9_line_50 : decode cX9_line 50 = .ok (.aload_n 0, 1) := by decide +kernel
theorem dX9_line_51 : decode cX9_line 51 = .ok (.getfield 82, 3) := by decide +kernel
theorem dX9_line_54 : decode cX9_line 54 = .ok (.aload_n 0, 1) := by decide +kernel
theorem dX9_line_55 : decode cX9_line 55 = .ok (.getfield 207, 3) := by decide +kernel
theorem dX9_line_58 : decode cX9_line 58 = .ok (.iload_n 3, 1) := by decide +kernel
theorem dX9_line_59 : decode cX9_line 59 = .ok (.iastore, 1) := by decide +kernel
theorem dX9_line_60 : decode cX9_line 60 = .ok (.aload_n 0, 1) := by decide +kernel
theorem dX9_line_61 : decode cX9_line 61 = .ok (.dup, 1) := by decide +kernel
theorem dX9_line_62 : decode cX9_line 62 = .ok (.getfield 207, 3) := by decide +kernel
theorem dX9_line_65 : decode cX9_line 65 = .ok (.iconst 1, 1) := by decide +kernel
theorem dX9_line_66 : decode cX9_line 66 = .ok (.iadd, 1) := by decide +kernel
theorem dX9_line_67 : decode cX9_line 67 = .ok (.putfield 207, 3) := by decide +kernel
theorem dX9_line_70 : decode cX9_line 70 = .ok (.aload_n 0, 1) := by decide +kernel
theorem dX9_line_71 : decode cX9_line 71 = .ok (.getfield 207, 3) := by decide +kernel
theorem dX9_line_74 : decode cX9_line 74 = .ok (.iconst 1, 1) := by decide +kernel
theorem dX9_line_75 : decode cX9_line 75 = .ok (.isub, 1) := by decide +kernel
theorem dX9_line_76 : decode cX9_line 76 = .ok (.ireturn, 1) := by decide +kernel
theorem dX9_lineFor_0 : decode cX9_lineFor 0 = .ok (.iconst 0, 1) := by decide +kernel
theorem dX9_lineFor_1 : decode cX9_lineFor 1 = .ok (.istore_n 3, 1) := by decide +kernel
theorem dX9_lineFor_2 : decode cX9_lineFor 2 = .ok (.iload_n 3, 1) := by decide +kernel
theorem dX9_lineFor_3 : decode cX9_lineFor 3 = .ok (.iload_n 2, 1) := by decide +kernel
theorem dX9_lineFor_4 : decode cX9_lineFor 4 = .ok (.if_icmp .ge 30, 3) := by decide +kernel
theorem dX9_lineFor_7 : decode cX9_lineFor 7 = .ok (.iload_n 1, 1) := by decide +kernel
theorem dX9_lineFor_8 : decode cX9_lineFor 8 = .ok (.aload_n 0, 1) := by decide +kernel
theorem dX9_lineFor_9 : decode cX9_lineFor 9 = .ok (.getfield 76, 3) := by decide +kernel
theorem dX9_lineFor_12 : decode cX9_lineFor 12 = .ok (.iload_n 3, 1) := by decide +kernel
theorem dX9_lineFor_13 : decode cX9_lineFor 13 = .ok (.iaload, 1) := by decide +kernel
theorem dX9_lineFor_14 : decode cX9_lineFor 14 = .ok (.aload_n 0, 1) := by decide +kernel
theorem dX9_lineFor_15 : decode cX9_lineFor 15 = .ok (.getfield 79, 3) := by decide +kernel
theorem dX9_lineFor_18 : decode cX9_lineFor 18 = .ok (.iload_n 3, 1) := by decide +kernel
theorem dX9_lineFor_19 : decode cX9_lineFor 19 = .ok (.iaload, 1) := by decide +kernel
theorem dX9_lineFor_20 : decode cX9_lineFor 20 = .ok (.invokestatic 122, 3) := by decide +kernel
theorem dX9_lineFor_23 : decode cX9_lineFor 23 = .ok (.ifCond .eq 5, 3) := by decide +kernel
theorem dX9_lineFor_26 : decode cX9_lineFor 26 = .ok (.iload_n 3, 1) := by decide +kernel
theorem dX9_lineFor_27 : decode cX9_lineFor 27 = .ok (.ireturn, 1) := by decide +kernel
theorem dX9_lineFor_28 : decode cX9_lineFor 28 = .ok (.iinc 3 1, 3) := by decide +kernel
theorem dX9_lineFor_31 : decode cX9_lineFor 31 = .ok (.goto (-29), 3) := by decide +kernel
theorem dX9_lineFor_34 : decode cX9_lineFor 34 = .ok (.bipush (-9), 2) := by decide +kernel
theorem dX9_lineFor_36 : decode cX9_lineFor 36 = .ok (.ireturn, 1) := by decide +kernel
theorem dX9_goesUp_0 : decode cX9_goesUp 0 = .ok (.iload_n 2, 1) := by decide +kernel
theorem dX9_goesUp_1 : decode cX9_goesUp 1 = .ok (.bipush (-9), 2) := by decide +kernel
theorem dX9_goesUp_3 : decode cX9_goesUp 3 = .ok (.if_icmp .ne 7, 3) := by decide +kernel
theorem dX9_goesUp_6 : decode cX9_goesUp 6 = .ok (.iconst 0, 1) := by decide +kernel
theorem dX9_goesUp_7 : decode cX9_goesUp 7 = .ok (.goto 9, 3) := by decide +kernel
theorem dX9_goesUp_10 : decode cX9_goesUp 10 = .ok (.aload_n 0, 1) := by decide +kernel
theorem dX9_goesUp_11 : decode cX9_goesUp 11 = .ok (.getfield 82, 3) := by decide +kernel
theorem dX9_goesUp_14 : decode cX9_goesUp 14 = .ok (.iload_n 2, 1) := by decide +kernel
theorem dX9_goesUp_15 : decode cX9_goesUp 15 = .ok (.iaload, 1) := by decide +kernel
theorem dX9_goesUp_16 : decode cX9_goesUp 16 = .ok (.istore_n 3, 1) := by decide +kernel
theorem dX9_goesUp_17 : decode cX9_goesUp 17 = .ok (.aload_n 0, 1) := by decide +kernel
theorem dX9_goesUp_18 : decode cX9_goesUp 18 = .ok (.getfield 13, 3) := by decide +kernel
theorem dX9_goesUp_21 : decode cX9_goesUp 21 = .ok (.iload_n 1, 1) := by decide +kernel
theorem dX9_goesUp_22 : decode cX9_goesUp 22 = .ok (.iaload, 1) := by decide +kernel
theorem dX9_goesUp_23 : decode cX9_goesUp 23 = .ok (.iconst 1, 1) := by decide +kernel
theorem dX9_goesUp_24 : decode cX9_goesUp 24 = .ok (.if_icmp .ne 12, 3) := by decide +kernel
theorem dX9_goesUp_27 : decode cX9_goesUp 27 = .ok (.iload_n 3, 1) := by decide +kernel
theorem dX9_goesUp_28 : decode cX9_goesUp 28 = .ok (.iconst (-1), 1) := by decide +kernel
theorem dX9_goesUp_29 : decode cX9_goesUp 29 = .ok (.if_icmp .ge 7, 3) := by decide +kernel
theorem dX9_goesUp_32 : decode cX9_goesUp 32 = .ok (.iconst (-1), 1) := by decide +kernel
theorem dX9_goesUp_33 : decode cX9_goesUp 33 = .ok (.goto 24, 3) := by decide +kernel
theorem dX9_goesUp_36 : decode cX9_goesUp 36 = .ok (.aload_n 0, 1) := by decide +kernel
theorem dX9_goesUp_37 : decode cX9_goesUp 37 = .ok (.getfield 13, 3) := by decide +kernel
theorem dX9_goesUp_40 : decode cX9_goesUp 40 = .ok (.iload_n 1, 1) := by decide +kernel
theorem dX9_goesUp_41 : decode cX9_goesUp 41 = .ok (.iaload, 1) := by decide +kernel
theorem dX9_goesUp_42 : decode cX9_goesUp 42 = .ok (.iconst 2, 1) := by decide +kernel
theorem dX9_goesUp_43 : decode cX9_goesUp 43 = .ok (.if_icmp .ne 13, 3) := by decide +kernel
theorem dX9_goesUp_46 : decode cX9_goesUp 46 = .ok (.iload_n 3, 1) := by decide +kernel
theorem dX9_goesUp_47 : decode cX9_goesUp 47 = .ok (.ifCond .le 9, 3) := by decide +kernel
theorem dX9_goesUp_50 : decode cX9_goesUp 50 = .ok (.iconst 2, 1) := by decide +kernel
theorem dX9_goesUp_51 : decode cX9_goesUp 51 = .ok (.iload_n 3, 1) := by decide +kernel
theorem dX9_goesUp_52 : decode cX9_goesUp 52 = .ok (.imul, 1) := by decide +kernel
theorem dX9_goesUp_53 : decode cX9_goesUp 53 = .ok (.goto 4, 3) := by decide +kernel
theorem dX9_goesUp_56 : decode cX9_goesUp 56 = .ok (.iload_n 3, 1) := by decide +kernel
theorem dX9_goesUp_57 : decode cX9_goesUp 57 = .ok (.ireturn, 1) := by decide +kernel
theorem dX9_order_0 : decode cX9_order 0 = .ok (.iconst 0, 1) := by decide +kernel
theorem dX9_order_1 : decode cX9_order 1 = .ok (.istore 4, 2) := by decide +kernel
theorem dX9_order_3 : decode cX9_order 3 = .ok (.iload 4, 2) := by decide +kernel
theorem dX9_order_5 : decode cX9_order 5 = .ok (.aload_n 0, 1) := by decide +kernel
theorem dX9_order_6 : decode cX9_order 6 = .ok (.getfield 126, 3) := by decide +kernel
theorem dX9_order_9 : decode cX9_order 9 = .ok (.if_icmp .ge 130, 3) := by decide +kernel
theorem dX9_order_12 : decode cX9_order 12 = .ok (.aload_n 1, 1) := by decide +kernel
theorem dX9_order_13 : decode cX9_order 13 = .ok (.iload 4, 2) := by decide +kernel
theorem dX9_order_15 : decode cX9_order 15 = .ok (.iaload, 1) := by decide +kernel
theorem dX9_order_16 : decode cX9_order 16 = .ok (.istore 5, 2) := by decide +kernel
theorem dX9_order_18 : decode cX9_order 18 = .ok (.aload_n 0, 1) := by decide +kernel
theorem dX9_order_19 : decode cX9_order 19 = .ok (.iload 5, 2) := by decide +kernel
theorem dX9_order_21 : decode cX9_order 21 = .ok (.aload_n 0, 1) := by decide +kernel
theorem dX9_order_22 : decode cX9_order 22 = .ok (.aload_n 2, 1) := by decide +kernel
theorem dX9_order_23 : decode cX9_order 23 = .ok (.iload 5, 2) := by decide +kernel
theorem dX9_order_25 : decode cX9_order 25 = .ok (.iaload, 1) := by decide +kernel
theorem dX9_order_26 : decode cX9_order 26 = .ok (.iload_n 3, 1) := by decide +kernel
theorem dX9_order_27 : decode cX9_order 27 = .ok (.invokevirtual 210, 3) := by decide +kernel
theorem dX9_order_30 : decode cX9_order 30 = .ok (.invokevirtual 213, 3) := by decide +kernel
theorem dX9_order_33 : decode cX9_order 33 = .ok (.istore 6, 2) := by decide +kernel
theorem dX9_order_35 : decode cX9_order 35 = .ok (.aload_n 0, 1) := by decide +kernel
theorem dX9_order_36 : decode cX9_order 36 = .ok (.getfield 97, 3) := by decide +kernel
theorem dX9_order_39 : decode cX9_order 39 = .ok (.iload 5, 2) := by decide +kernel
theorem dX9_order_41 : decode cX9_order 41 = .ok (.iconst 2, 1) := by decide +kernel
theorem dX9_order_42 : decode cX9_order 42 = .ok (.iload 4, 2) := by decide +kernel
theorem dX9_order_44 : decode cX9_order 44 = .ok (.iload 6, 2) := by decide +kernel
theorem dX9_order_46 : decode cX9_order 46 = .ok (.isub, 1) := by decide +kernel
theorem dX9_order_47 : decode cX9_order 47 = .ok (.imul, 1) := by decide +kernel
theorem dX9_order_48 : decode cX9_order 48 = .ok (.iload 6, 2) := by decide +kernel
theorem dX9_order_50 : decode cX9_order 50 = .ok (.ifCond .le 7, 3) := by decide +kernel
theorem dX9_order_53 : decode cX9_order 53 = .ok (.iconst (-1), 1) := by decide +kernel
theorem dX9_order_54 : decode cX9_order 54 = .ok (.goto 13, 3) := by decide +kernel
theorem dX9_order_57 : decode cX9_order 57 = .ok (.iload 6, 2) := by decide +kernel
theorem dX9_order_59 : decode cX9_order 59 = .ok (.ifCond .ge 7, 3) := by decide +kernel
theorem dX9_order_62 : decode cX9_order 62 = .ok (.iconst 1, 1) := by decide +kernel
theorem dX9_order_63 : decode cX9_order 63 = .ok (.goto 4, 3) := by decide +kernel
theorem dX9_order_66 : decode cX9_order 66 = .ok (.iconst 0, 1) := by decide +kernel
theorem dX9_order_67 : decode cX9_order 67 = .ok (.iadd, 1) := by decide +kernel
theorem dX9_order_68 : decode cX9_order 68 = .ok (.iastore, 1) := by decide +kernel
theorem dX9_order_69 : decode cX9_order 69 = .ok (.iload 4, 2) := by decide +kernel
theorem dX9_order_71 : decode cX9_order 71 = .ok (.istore 7, 2) := by decide +kernel
theorem dX9_order_73 : decode cX9_order 73 = .ok (.iload 7, 2) := by decide +kernel
theorem dX9_order_75 : decode cX9_order 75 = .ok (.ifCond .le 49, 3) := by decide +kernel
theorem dX9_order_78 : decode cX9_order 78 = .ok (.aload_n 0, 1) := by decide +kernel
theorem dX9_order_79 : decode cX9_order 79 = .ok (.getfield 97, 3) := by decide +kernel
theorem dX9_order_82 : decode cX9_order 82 = .ok (.aload_n 0, 1) := by decide +kernel
theorem dX9_order_83 : decode cX9_order 83 = .ok (.getfield 100, 3) := by decide +kernel
theorem dX9_order_86 : decode cX9_order 86 = .ok (.iload 7, 2) := by decide +kernel
theorem dX9_order_88 : decode cX9_order 88 = .ok (.iconst 1, 1) := by decide +kernel
theorem dX9_order_89 : decode cX9_order 89 = .ok (.isub, 1) := by decide +kernel
theorem dX9_order_90 : decode cX9_order 90 = .ok (.iaload, 1) := by decide +kernel
theorem dX9_order_91 : decode cX9_order 91 = .ok (.iaload, 1) := by decide +kernel
theorem dX9_order_92 : decode cX9_order 92 = .ok (.aload_n 0, 1) := by decide +kernel
theorem dX9_order_93 : decode cX9_order 93 = .ok (.getfield 97, 3) := by decide +kernel
theorem dX9_order_96 : decode cX9_order 96 = .ok (.iload 5, 2) := by decide +kernel
theorem dX9_order_98 : decode cX9_order 98 = .ok (.iaload, 1) := by decide +kernel
theorem dX9_order_99 : decode cX9_order 99 = .ok (.if_icmp .le 25, 3) := by decide +kernel
theorem dX9_order_102 : decode cX9_order 102 = .ok (.aload_n 0, 1) := by decide +kernel
theorem dX9_order_103 : decode cX9_order 103 = .ok (.getfield 100, 3) := by decide +kernel
theorem dX9_order_106 : decode cX9_order 106 = .ok (.iload 7, 2) := by decide +kernel
theorem dX9_order_108 : decode cX9_order 108 = .ok (.aload_n 0, 1) := by decide +kernel
theorem dX9_order_109 : decode cX9_order 109 = .ok (.getfield 100, 3) := by decide +kernel
theorem dX9_order_112 : decode cX9_order 112 = .ok (.iload 7, 2) := by decide +kernel
theorem dX9_order_114 : decode cX9_order 114 = .ok (.iconst 1, 1) := by decide +kernel
theorem dX9_order_115 : decode cX9_order 115 = .ok (.isub, 1) := by decide +kernel
theorem dX9_order_116 : decode cX9_order 116 = .ok (.iaload, 1) := by decide +kernel
theorem dX9_order_117 : decode cX9_order 117 = .ok (.iastore, 1) := by decide +kernel
theorem dX9_order_118 : decode cX9_order 118 = .ok (.iinc 7 (-1), 3) := by decide +kernel
theorem dX9_order_121 : decode cX9_order 121 = .ok (.goto (-48), 3) := by decide +kernel
theorem dX9_order_124 : decode cX9_order 124 = .ok (.aload_n 0, 1) := by decide +kernel
theorem dX9_order_125 : decode cX9_order 125 = .ok (.getfield 100, 3) := by decide +kernel
theorem dX9_order_128 : decode cX9_order 128 = .ok (.iload 7, 2) := by decide +kernel
theorem dX9_order_130 : decode cX9_order 130 = .ok (.iload 5, 2) := by decide +kernel
theorem dX9_order_132 : decode cX9_order 132 = .ok (.iastore, 1) := by decide +kernel
theorem dX9_order_133 : decode cX9_order 133 = .ok (.iinc 4 1, 3) := by decide +kernel
theorem dX9_order_136 : decode cX9_order 136 = .ok (.goto (-133), 3) := by decide +kernel
theorem dX9_order_139 : decode cX9_order 139 = .ok (.return_, 1) := by decide +kernel
theorem dX9_anew_0 : decode cX9_anew 0 = .ok (.aload_n 0, 1) := by decide +kernel
theorem dX9_anew_1 : decode cX9_anew 1 = .ok (.getfield 132, 3) := by decide +kernel
theorem dX9_anew_4 : decode cX9_anew 4 = .ok (.ifCond .eq 29, 3) := by decide +kernel
theorem dX9_anew_7 : decode cX9_anew 7 = .ok (.aload_n 0, 1) := by decide +kernel
theorem dX9_anew_8 : decode cX9_anew 8 = .ok (.getfield 167, 3) := by decide +kernel
theorem dX9_anew_11 : decode cX9_anew 11 = .ok (.aload_n 0, 1) := by decide +kernel
theorem dX9_anew_12 : decode cX9_anew 12 = .ok (.getfield 164, 3) := by decide +kernel
theorem dX9_anew_15 : decode cX9_anew 15 = .ok (.if_icmp .lt 18, 3) := by decide +kernel
theorem dX9_anew_18 : decode cX9_anew 18 = .ok (.aload_n 0, 1) := by decide +kernel
theorem dX9_anew_19 : decode cX9_anew 19 = .ok (.getfield 173, 3) := by decide +kernel
theorem dX9_anew_22 : decode cX9_anew 22 = .ok (.ifCond .gt 11, 3) := by decide +kernel
theorem dX9_anew_25 : decode cX9_anew 25 = .ok (.aload_n 0, 1) := by decide +kernel
theorem dX9_anew_26 : decode cX9_anew 26 = .ok (.getfield 216, 3) := by decide +kernel
theorem dX9_anew_29 : decode cX9_anew 29 = .ok (.iconst 1, 1) := by decide +kernel
theorem dX9_anew_30 : decode cX9_anew 30 = .ok (.if_icmp .le 6, 3) := by decide +kernel
theorem dX9_anew_33 : decode cX9_anew 33 = .ok (.bipush (-4), 2) := by decide +kernel
theorem dX9_anew_35 : decode cX9_anew 35 = .ok (.ireturn, 1) := by decide +kernel
theorem dX9_anew_36 : decode cX9_anew 36 = .ok (.iconst 0, 1) := by decide +kernel
theorem dX9_anew_37 : decode cX9_anew 37 = .ok (.istore_n 1, 1) := by decide +kernel
theorem dX9_anew_38 : decode cX9_anew 38 = .ok (.iload_n 1, 1) := by decide +kernel
theorem dX9_anew_39 : decode cX9_anew 39 = .ok (.bipush 16, 2) := by decide +kernel
theorem dX9_anew_41 : decode cX9_anew 41 = .ok (.if_icmp .ge 52, 3) := by decide +kernel
theorem dX9_anew_44 : decode cX9_anew 44 = .ok (.aload_n 0, 1) := by decide +kernel
theorem dX9_anew_45 : decode cX9_anew 45 = .ok (.getfield 103, 3) := by decide +kernel
theorem dX9_anew_48 : decode cX9_anew 48 = .ok (.iload_n 1, 1) := by decide +kernel
theorem dX9_anew_49 : decode cX9_anew 49 = .ok (.aload_n 0, 1) := by decide +kernel
theorem dX9_anew_50 : decode cX9_anew 50 = .ok (.getfield 29, 3) := by decide +kernel
theorem dX9_anew_53 : decode cX9_anew 53 = .ok (.iload_n 1, 1) := by decide +kernel
theorem dX9_anew_54 : decode cX9_anew 54 = .ok (.iaload, 1) := by decide +kernel
theorem dX9_anew_55 : decode cX9_anew 55 = .ok (.aload_n 0, 1) := by decide +kernel
theorem dX9_anew_56 : decode cX9_anew 56 = .ok (.getfield 32, 3) := by decide +kernel
theorem dX9_anew_59 : decode cX9_anew 59 = .ok (.iload_n 1, 1) := by decide +kernel
theorem dX9_anew_60 : decode cX9_anew 60 = .ok (.iaload, 1) := by decide +kernel
theorem dX9_anew_61 : decode cX9_anew 61 = .ok (.isub, 1) := by decide +kernel
theorem dX9_anew_62 : decode cX9_anew 62 = .ok (.iastore, 1) := by decide +kernel
theorem dX9_anew_63 : decode cX9_anew 63 = .ok (.aload_n 0, 1) := by decide +kernel
theorem dX9_anew_64 : decode cX9_anew 64 = .ok (.getfield 85, 3) := by decide +kernel
theorem dX9_anew_67 : decode cX9_anew 67 = .ok (.iload_n 1, 1) := by decide +kernel
theorem dX9_anew_68 : decode cX9_anew 68 = .ok (.bipush (-9), 2) := by decide +kernel
theorem dX9_anew_70 : decode cX9_anew 70 = .ok (.iastore, 1) := by decide +kernel
theorem dX9_anew_71 : decode cX9_anew 71 = .ok (.aload_n 0, 1) := by decide +kernel
theorem dX9_anew_72 : decode cX9_anew 72 = .ok (.getfield 88, 3) := by decide +kernel
theorem dX9_anew_75 : decode cX9_anew 75 = .ok (.iload_n 1, 1) := by decide +kernel
theorem dX9_anew_76 : decode cX9_anew 76 = .ok (.bipush (-9), 2) := by decide +kernel
theorem dX9_anew_78 : decode cX9_anew 78 = .ok (.iastore, 1) := by decide +kernel
theorem dX9_anew_79 : decode cX9_anew 79 = .ok (.aload_n 0, 1) := by decide +kernel
theorem dX9_anew_80 : decode cX9_anew 80 = .ok (.getfield 91, 3) := by decide +kernel
theorem dX9_anew_83 : decode cX9_anew 83 = .ok (.iload_n 1, 1) := by decide +kernel
theorem dX9_anew_84 : decode cX9_anew 84 = .ok (.bipush (-9), 2) := by decide +kernel
theorem dX9_anew_86 : decode cX9_anew 86 = .ok (.iastore, 1) := by decide +kernel
theorem dX9_anew_87 : decode cX9_anew 87 = .ok (.iinc 1 1, 3) := by decide +kernel
theorem dX9_anew_90 : decode cX9_anew 90 = .ok (.goto (-52), 3) := by decide +kernel
theorem dX9_anew_93 : decode cX9_anew 93 = .ok (.iconst 0, 1) := by decide +kernel
theorem dX9_anew_94 : decode cX9_anew 94 = .ok (.istore_n 1, 1) := by decide +kernel
theorem dX9_anew_95 : decode cX9_anew 95 = .ok (.iload_n 1, 1) := by decide +kernel
theorem dX9_anew_96 : decode cX9_anew 96 = .ok (.aload_n 0, 1) := by decide +kernel
theorem dX9_anew_97 : decode cX9_anew 97 = .ok (.getfield 126, 3) := by decide +kernel
theorem dX9_anew_100 : decode cX9_anew 100 = .ok (.if_icmp .ge 124, 3) := by decide +kernel
theorem dX9_anew_103 : decode cX9_anew 103 = .ok (.aload_n 0, 1) := by decide +kernel
theorem dX9_anew_104 : decode cX9_anew 104 = .ok (.getfield 41, 3) := by decide +kernel
theorem dX9_anew_107 : decode cX9_anew 107 = .ok (.iload_n 1, 1) := by decide +kernel
theorem dX9_anew_108 : decode cX9_anew 108 = .ok (.iaload, 1) := by decide +kernel
theorem dX9_anew_109 : decode cX9_anew 109 = .ok (.istore_n 2, 1) := by decide +kernel
theorem dX9_anew_110 : decode cX9_anew 110 = .ok (.aload_n 0, 1) := by decide +kernel
theorem dX9_anew_111 : decode cX9_anew 111 = .ok (.getfield 106, 3) := by decide +kernel
theorem dX9_anew_114 : decode cX9_anew 114 = .ok (.iload_n 1, 1) := by decide +kernel
theorem dX9_anew_115 : decode cX9_anew 115 = .ok (.iload_n 2, 1) := by decide +kernel
theorem dX9_anew_116 : decode cX9_anew 116 = .ok (.iastore, 1) := by decide +kernel
theorem dX9_anew_117 : decode cX9_anew 117 = .ok (.aload_n 0, 1) := by decide +kernel
theorem dX9_anew_118 : decode cX9_anew 118 = .ok (.getfield 88, 3) := by decide +kernel
theorem dX9_anew_121 : decode cX9_anew 121 = .ok (.iload_n 2, 1) := by decide +kernel
theorem dX9_anew_122 : decode cX9_anew 122 = .ok (.iload_n 1, 1) := by decide +kernel
theorem dX9_anew_123 : decode cX9_anew 123 = .ok (.iastore, 1) := by decide +kernel
theorem dX9_anew_124 : decode cX9_anew 124 = .ok (.aload_n 0, 1) := by decide +kernel
theorem dX9_anew_125 : decode cX9_anew 125 = .ok (.getfield 85, 3) := by decide +kernel
theorem dX9_anew_128 : decode cX9_anew 128 = .ok (.iload_n 2, 1) := by decide +kernel
theorem dX9_anew_129 : decode cX9_anew 129 = .ok (.aload_n 0, 1) := by decide +kernel
theorem dX9_anew_130 : decode cX9_anew 130 = .ok (.aload_n 0, 1) := by decide +kernel
theorem dX9_anew_131 : decode cX9_anew 131 = .ok (.getfield 103, 3) := by decide +kernel
theorem dX9_anew_134 : decode cX9_anew 134 = .ok (.iload_n 2, 1) := by decide +kernel
theorem dX9_anew_135 : decode cX9_anew 135 = .ok (.iaload, 1) := by decide +kernel
theorem dX9_anew_136 : decode cX9_anew 136 = .ok (.aload_n 0, 1) := by decide +kernel
theorem dX9_anew_137 : decode cX9_anew 137 = .ok (.getfield 207, 3) := by decide +kernel
theorem dX9_anew_140 : decode cX9_anew 140 = .ok (.invokevirtual 210, 3) := by decide +kernel
theorem dX9_anew_143 : decode cX9_anew 143 = .ok (.iastore, 1) := by decide +kernel
theorem dX9_anew_144 : decode cX9_anew 144 = .ok (.aload_n 0, 1) := by decide +kernel
theorem dX9_anew_145 : decode cX9_anew 145 = .ok (.getfield 85, 3) := by decide +kernel
theorem dX9_anew_148 : decode cX9_anew 148 = .ok (.iload_n 2, 1) := by decide +kernel
theorem dX9_anew_149 : decode cX9_anew 149 = .ok (.iaload, 1) := by decide +kernel
theorem dX9_anew_150 : decode cX9_anew 150 = .ok (.bipush (-9), 2) := by decide +kernel
theorem dX9_anew_152 : decode cX9_anew 152 = .ok (.if_icmp .ne 7, 3) := by decide +kernel
theorem dX9_anew_155 : decode cX9_anew 155 = .ok (.iconst 0, 1) := by decide +kernel
theorem dX9_anew_156 : decode cX9_anew 156 = .ok (.goto 14, 3) := by decide +kernel
theorem dX9_anew_159 : decode cX9_anew 159 = .ok (.aload_n 0, 1) := by decide +kernel
theorem dX9_anew_160 : decode cX9_anew 160 = .ok (.getfield 82, 3) := by decide +kernel
theorem dX9_anew_163 : decode cX9_anew 163 = .ok (.aload_n 0, 1) := by decide +kernel
theorem dX9_anew_164 : decode cX9_anew 164 = .ok (.getfield 85, 3) := by decide +kernel
theorem dX9_anew_167 : decode cX9_anew 167 = .ok (.iload_n 2, 1) := by decide +kernel
theorem dX9_anew_168 : decode cX9_anew 168 = .ok (.iaload, 1) := by decide +kernel
theorem dX9_anew_169 : decode cX9_anew 169 = .ok (.iaload, 1) := by decide +kernel
theorem dX9_anew_170 : decode cX9_anew 170 = .ok (.istore_n 3, 1) := by decide +kernel
theorem dX9_anew_171 : decode cX9_anew 171 = .ok (.aload_n 0, 1) := by decide +kernel
theorem dX9_anew_172 : decode cX9_anew 172 = .ok (.getfield 38, 3) := by decide +kernel
theorem dX9_anew_175 : decode cX9_anew 175 = .ok (.iload_n 2, 1) := by decide +kernel
theorem dX9_anew_176 : decode cX9_anew 176 = .ok (.dup2, 1) := by decide +kernel
theorem dX9_anew_177 : decode cX9_anew 177 = .ok (.iaload, 1) := by decide +kernel
theorem dX9_anew_178 : decode cX9_anew 178 = .ok (.aload_n 0, 1) := by decide +kernel
theorem dX9_anew_179 : decode cX9_anew 179 = .ok (.getfield 13, 3) := by decide +kernel
theorem dX9_anew_182 : decode cX9_anew 182 = .ok (.iload_n 2, 1) := by decide +kernel
theorem dX9_anew_183 : decode cX9_anew 183 = .ok (.iaload, 1) := by decide +kernel
theorem dX9_anew_184 : decode cX9_anew 184 = .ok (.iconst 1, 1) := by decide +kernel
theorem dX9_anew_185 : decode cX9_anew 185 = .ok (.if_icmp .ne 12, 3) := by decide +kernel
theorem dX9_anew_188 : decode cX9_anew 188 = .ok (.iload_n 3, 1) := by decide +kernel
theorem dX9_anew_189 : decode cX9_anew 189 = .ok (.iconst (-1), 1) := by decide +kernel
theorem dX9_anew_190 : decode cX9_anew 190 = .ok (.if_icmp .ge 7, 3) := by decide +kernel
theorem dX9_anew_193 : decode cX9_anew 193 = .ok (.iconst 1, 1) := by decide +kernel
theorem dX9_anew_194 : decode cX9_anew 194 = .ok (.goto 22, 3) := by decide +kernel
theorem dX9_anew_197 : decode cX9_anew 197 = .ok (.aload_n 0, 1) := by decide +kernel
theorem dX9_anew_198 : decode cX9_anew 198 = .ok (.getfield 13, 3) := by decide +kernel
theorem dX9_anew_201 : decode cX9_anew 201 = .ok (.iload_n 2, 1) := by decide +kernel
theorem dX9_anew_202 : decode cX9_anew 202 = .ok (.iaload, 1) := by decide +kernel
theorem dX9_anew_203 : decode cX9_anew 203 = .ok (.iconst 2, 1) := by decide +kernel
theorem dX9_anew_204 : decode cX9_anew 204 = .ok (.if_icmp .ne 11, 3) := by decide +kernel
theorem dX9_anew_207 : decode cX9_anew 207 = .ok (.iload_n 3, 1) := by decide +kernel
theorem dX9_anew_208 : decode cX9_anew 208 = .ok (.ifCond .le 7, 3) := by decide +kernel
theorem dX9_anew_211 : decode cX9_anew 211 = .ok (.iload_n 3, 1) := by decide +kernel
theorem dX9_anew_212 : decode cX9_anew 212 = .ok (.goto 4, 3) := by decide +kernel
theorem dX9_anew_215 : decode cX9_anew 215 = .ok (.iconst 0, 1) := by decide +kernel
theorem dX9_anew_216 : decode cX9_anew 216 = .ok (.iadd, 1) := by decide +kernel
theorem dX9_anew_217 : decode cX9_anew 217 = .ok (.iastore, 1) := by decide +kernel
theorem dX9_anew_218 : decode cX9_anew 218 = .ok (.iinc 1 1, 3) := by decide +kernel
theorem dX9_anew_221 : decode cX9_anew 221 = .ok (.goto (-126), 3) := by decide +kernel
theorem dX9_anew_224 : decode cX9_anew 224 = .ok (.aload_n 0, 1) := by decide +kernel
theorem dX9_anew_225 : decode cX9_anew 225 = .ok (.aload_n 0, 1) := by decide +kernel
theorem dX9_anew_226 : decode cX9_anew 226 = .ok (.getfield 106, 3) := by decide +kernel
theorem dX9_anew_229 : decode cX9_anew 229 = .ok (.aload_n 0, 1) := by decide +kernel
theorem dX9_anew_230 : decode cX9_anew 230 = .ok (.getfield 103, 3) := by decide +kernel
theorem dX9_anew_233 : decode cX9_anew 233 = .ok (.aload_n 0, 1) := by decide +kernel
theorem dX9_anew_234 : decode cX9_anew 234 = .ok (.getfield 207, 3) := by decide +kernel
theorem dX9_anew_237 : decode cX9_anew 237 = .ok (.invokevirtual 219, 3) := by decide +kernel
theorem dX9_anew_240 : decode cX9_anew 240 = .ok (.iconst 0, 1) := by decide +kernel
theorem dX9_anew_241 : decode cX9_anew 241 = .ok (.istore_n 1, 1) := by decide +kernel
theorem dX9_anew_242 : decode cX9_anew 242 = .ok (.iconst 0, 1) := by decide +kernel
theorem dX9_anew_243 : decode cX9_anew 243 = .ok (.istore_n 2, 1) := by decide +kernel
theorem dX9_anew_244 : decode cX9_anew 244 = .ok (.iload_n 2, 1) := by decide +kernel
theorem dX9_anew_245 : decode cX9_anew 245 = .ok (.aload_n 0, 1) := by decide +kernel
theorem dX9_anew_246 : decode cX9_anew 246 = .ok (.getfield 126, 3) := by decide +kernel
theorem dX9_anew_249 : decode cX9_anew 249 = .ok (.if_icmp .ge 56, 3) := by decide +kernel
theorem dX9_anew_252 : decode cX9_anew 252 = .ok (.aload_n 0, 1) := by decide +kernel
theorem dX9_anew_253 : decode cX9_anew 253 = .ok (.getfield 41, 3) := by decide +kernel
theorem dX9_anew_256 : decode cX9_anew 256 = .ok (.iload_n 2, 1) := by decide +kernel
theorem dX9_anew_257 : decode cX9_anew 257 = .ok (.aload_n 0, 1) := by decide +kernel
theorem dX9_anew_258 : decode cX9_anew 258 = .ok (.getfield 100, 3) := by decide +kernel
theorem dX9_anew_261 : decode cX9_anew 261 = .ok (.iload_n 2, 1) := by decide +kernel
theorem dX9_anew_262 : decode cX9_anew 262 = .ok (.iaload, 1) := by decide +kernel
theorem dX9_anew_263 : decode cX9_anew 263 = .ok (.iastore, 1) := by decide +kernel
theorem dX9_anew_264 : decode cX9_anew 264 = .ok (.aload_n 0, 1) := by decide +kernel
theorem dX9_anew_265 : decode cX9_anew 265 = .ok (.getfield 91, 3) := by decide +kernel
theorem dX9_anew_268 : decode cX9_anew 268 = .ok (.aload_n 0, 1) := by decide +kernel
theorem dX9_anew_269 : decode cX9_anew 269 = .ok (.getfield 100, 3) := by decide +kernel
theorem dX9_anew_272 : decode cX9_anew 272 = .ok (.iload_n 2, 1) := by decide +kernel
theorem dX9_anew_273 : decode cX9_anew 273 = .ok (.iaload, 1) := by decide +kernel
theorem dX9_anew_274 : decode cX9_anew 274 = .ok (.iload_n 2, 1) := by decide +kernel
theorem dX9_anew_275 : decode cX9_anew 275 = .ok (.iastore, 1) := by decide +kernel
theorem dX9_anew_276 : decode cX9_anew 276 = .ok (.iload_n 1, 1) := by decide +kernel
theorem dX9_anew_277 : decode cX9_anew 277 = .ok (.aload_n 0, 1) := by decide +kernel
theorem dX9_anew_278 : decode cX9_anew 278 = .ok (.getfield 88, 3) := by decide +kernel
theorem dX9_anew_281 : decode cX9_anew 281 = .ok (.aload_n 0, 1) := by decide +kernel
theorem dX9_anew_282 : decode cX9_anew 282 = .ok (.getfield 100, 3) := by decide +kernel
theorem dX9_anew_285 : decode cX9_anew 285 = .ok (.iload_n 2, 1) := by decide +kernel
theorem dX9_anew_286 : decode cX9_anew 286 = .ok (.iaload, 1) := by decide +kernel
theorem dX9_anew_287 : decode cX9_anew 287 = .ok (.iaload, 1) := by decide +kernel
theorem dX9_anew_288 : decode cX9_anew 288 = .ok (.iload_n 2, 1) := by decide +kernel
theorem dX9_anew_289 : decode cX9_anew 289 = .ok (.if_icmp .ne 7, 3) := by decide +kernel
theorem dX9_anew_292 : decode cX9_anew 292 = .ok (.iconst 0, 1) := by decide +kernel
theorem dX9_anew_293 : decode cX9_anew 293 = .ok (.goto 4, 3) := by decide +kernel
theorem dX9_anew_296 : decode cX9_anew 296 = .ok (.iconst 1, 1) := by decide +kernel
theorem dX9_anew_297 : decode cX9_anew 297 = .ok (.iadd, 1) := by decide +kernel
theorem dX9_anew_298 : decode cX9_anew 298 = .ok (.istore_n 1, 1) := by decide +kernel
theorem dX9_anew_299 : decode cX9_anew 299 = .ok (.iinc 2 1, 3) := by decide +kernel
theorem dX9_anew_302 : decode cX9_anew 302 = .ok (.goto (-58), 3) := by decide +kernel
theorem dX9_anew_305 : decode cX9_anew 305 = .ok (.aload_n 0, 1) := by decide +kernel
theorem dX9_anew_306 : decode cX9_anew 306 = .ok (.aload_n 0, 1) := by decide +kernel
theorem dX9_anew_307 : decode cX9_anew 307 = .ok (.getfield 207, 3) := by decide +kernel
theorem dX9_anew_310 : decode cX9_anew 310 = .ok (.putfield 223, 3) := by decide +kernel
theorem dX9_anew_313 : decode cX9_anew 313 = .ok (.aload_n 0, 1) := by decide +kernel
theorem dX9_anew_314 : decode cX9_anew 314 = .ok (.dup, 1) := by decide +kernel
theorem dX9_anew_315 : decode cX9_anew 315 = .ok (.getfield 226, 3) := by decide +kernel
theorem dX9_anew_318 : decode cX9_anew 318 = .ok (.iconst 1, 1) := by decide +kernel
theorem dX9_anew_319 : decode cX9_anew 319 = .ok (.iadd, 1) := by decide +kernel
theorem dX9_anew_320 : decode cX9_anew 320 = .ok (.putfield 226, 3) := by decide +kernel
theorem dX9_anew_323 : decode cX9_anew 323 = .ok (.aload_n 0, 1) := by decide +kernel
theorem dX9_anew_324 : decode cX9_anew 324 = .ok (.iconst 1, 1) := by decide +kernel
theorem dX9_anew_325 : decode cX9_anew 325 = .ok (.putfield 136, 3) := by decide +kernel
theorem dX9_anew_328 : decode cX9_anew 328 = .ok (.aload_n 0, 1) := by decide +kernel
theorem dX9_anew_329 : decode cX9_anew 329 = .ok (.iconst 0, 1) := by decide +kernel
theorem dX9_anew_330 : decode cX9_anew 330 = .ok (.putfield 132, 3) := by decide +kernel
theorem dX9_anew_333 : decode cX9_anew 333 = .ok (.iload_n 1, 1) := by decide +kernel
theorem dX9_anew_334 : decode cX9_anew 334 = .ok (.ireturn, 1) := by decide +kernel
theorem dX9_why_0 : decode cX9_why 0 = .ok (.aload_n 0, 1) := by decide +kernel
theorem dX9_why_1 : decode cX9_why 1 = .ok (.iconst 1, 1) := by decide +kernel
theorem dX9_why_2 : decode cX9_why 2 = .ok (.iload_n 1, 1) := by decide +kernel
theorem dX9_why_3 : decode cX9_why 3 = .ok (.invokevirtual 150, 3) := by decide +kernel
theorem dX9_why_6 : decode cX9_why 6 = .ok (.istore_n 2, 1) := by decide +kernel
theorem dX9_why_7 : decode cX9_why 7 = .ok (.iload_n 2, 1) := by decide +kernel
theorem dX9_why_8 : decode cX9_why 8 = .ok (.ifCond .ge 7, 3) := by decide +kernel
theorem dX9_why_11 : decode cX9_why 11 = .ok (.iload_n 2, 1) := by decide +kernel
theorem dX9_why_12 : decode cX9_why 12 = .ok (.goto 9, 3) := by decide +kernel
theorem dX9_why_15 : decode cX9_why 15 = .ok (.aload_n 0, 1) := by decide +kernel
theorem dX9_why_16 : decode cX9_why 16 = .ok (.getfield 85, 3) := by decide +kernel
theorem dX9_why_19 : decode cX9_why 19 = .ok (.iload_n 1, 1) := by decide +kernel
theorem dX9_why_20 : decode cX9_why 20 = .ok (.iaload, 1) := by decide +kernel
theorem dX9_why_21 : decode cX9_why 21 = .ok (.ireturn, 1) := by decide +kernel
theorem dX9_passed_0 : decode cX9_passed 0 = .ok (.aload_n 0, 1) := by decide +kernel
theorem dX9_passed_1 : decode cX9_passed 1 = .ok (.iload_n 1, 1) := by decide +kernel
theorem dX9_passed_2 : decode cX9_passed 2 = .ok (.invokevirtual 139, 3) := by decide +kernel
theorem dX9_passed_5 : decode cX9_passed 5 = .ok (.ifCond .eq 11, 3) := by decide +kernel
theorem dX9_passed_8 : decode cX9_passed 8 = .ok (.aload_n 0, 1) := by decide +kernel
theorem dX9_passed_9 : decode cX9_passed 9 = .ok (.iload_n 2, 1) := by decide +kernel
theorem dX9_passed_10 : decode cX9_passed 10 = .ok (.invokevirtual 139, 3) := by decide +kernel
theorem dX9_passed_13 : decode cX9_passed 13 = .ok (.ifCond .ne 5, 3) := by decide +kernel
theorem dX9_passed_16 : decode cX9_passed 16 = .ok (.iconst (-1), 1) := by decide +kernel
theorem dX9_passed_17 : decode cX9_passed 17 = .ok (.ireturn, 1) := by decide +kernel
theorem dX9_passed_18 : decode cX9_passed 18 = .ok (.aload_n 0, 1) := by decide +kernel
theorem dX9_passed_19 : decode cX9_passed 19 = .ok (.getfield 22, 3) := by decide +kernel
theorem dX9_passed_22 : decode cX9_passed 22 = .ok (.iload_n 1, 1) := by decide +kernel
theorem dX9_passed_23 : decode cX9_passed 23 = .ok (.baload, 1) := by decide +kernel
theorem dX9_passed_24 : decode cX9_passed 24 = .ok (.ifCond .ne 12, 3) := by decide +kernel
theorem dX9_passed_27 : decode cX9_passed 27 = .ok (.aload_n 0, 1) := by decide +kernel
theorem dX9_passed_28 : decode cX9_passed 28 = .ok (.getfield 22, 3) := by decide +kernel
theorem dX9_passed_31 : decode cX9_passed 31 = .ok (.iload_n 2, 1) := by decide +kernel
theorem dX9_passed_32 : decode cX9_passed 32 = .ok (.baload, 1) := by decide +kernel
theorem dX9_passed_33 : decode cX9_passed 33 = .ok (.ifCond .eq 9, 3) := by decide +kernel
theorem dX9_passed_36 : decode cX9_passed 36 = .ok (.aload_n 0, 1) := by decide +kernel
theorem dX9_passed_37 : decode cX9_passed 37 = .ok (.iconst 1, 1) := by decide +kernel
theorem dX9_passed_38 : decode cX9_passed 38 = .ok (.invokevirtual 143, 3) := by decide +kernel
theorem dX9_passed_41 : decode cX9_passed 41 = .ok (.ireturn, 1) := by decide +kernel
theorem dX9_passed_42 : decode cX9_passed 42 = .ok (.aload_n 0, 1) := by decide +kernel
theorem dX9_passed_43 : decode cX9_passed 43 = .ok (.getfield 88, 3) := by decide +kernel
theorem dX9_passed_46 : decode cX9_passed 46 = .ok (.iload_n 1, 1) := by decide +kernel
theorem dX9_passed_47 : decode cX9_passed 47 = .ok (.iaload, 1) := by decide +kernel
theorem dX9_passed_48 : decode cX9_passed 48 = .ok (.bipush (-9), 2) := by decide +kernel
theorem dX9_passed_50 : decode cX9_passed 50 = .ok (.if_icmp .eq 18, 3) := by decide +kernel
theorem dX9_passed_53 : decode cX9_passed 53 = .ok (.aload_n 0, 1) := by decide +kernel
theorem dX9_passed_54 : decode cX9_passed 54 = .ok (.getfield 88, 3) := by decide +kernel
theorem dX9_passed_57 : decode cX9_passed 57 = .ok (.iload_n 2, 1) := by decide +kernel
theorem dX9_passed_58 : decode cX9_passed 58 = .ok (.iaload, 1) := by decide +kernel
theorem dX9_passed_59 : decode cX9_passed 59 = .ok (.bipush (-9), 2) := by decide +kernel
theorem dX9_passed_61 : decode cX9_passed 61 = .ok (.if_icmp .eq 7, 3) := by decide +kernel
theorem dX9_passed_64 : decode cX9_passed 64 = .ok (.iconst 1, 1) := by decide +kernel
theorem dX9_passed_65 : decode cX9_passed 65 = .ok (.goto 4, 3) := by decide +kernel
theorem dX9_passed_68 : decode cX9_passed 68 = .ok (.iconst 0, 1) := by decide +kernel
theorem dX9_passed_69 : decode cX9_passed 69 = .ok (.istore_n 3, 1) := by decide +kernel
theorem dX9_passed_70 : decode cX9_passed 70 = .ok (.iload_n 3, 1) := by decide +kernel
theorem dX9_passed_71 : decode cX9_passed 71 = .ok (.ifCond .eq 37, 3) := by decide +kernel
theorem dX9_passed_74 : decode cX9_passed 74 = .ok (.aload_n 0, 1) := by decide +kernel
theorem dX9_passed_75 : decode cX9_passed 75 = .ok (.getfield 88, 3) := by decide +kernel
theorem dX9_passed_78 : decode cX9_passed 78 = .ok (.iload_n 1, 1) := by decide +kernel
theorem dX9_passed_79 : decode cX9_passed 79 = .ok (.iaload, 1) := by decide +kernel
theorem dX9_passed_80 : decode cX9_passed 80 = .ok (.aload_n 0, 1) := by decide +kernel
theorem dX9_passed_81 : decode cX9_passed 81 = .ok (.getfield 88, 3) := by decide +kernel
theorem dX9_passed_84 : decode cX9_passed 84 = .ok (.iload_n 2, 1) := by decide +kernel
theorem dX9_passed_85 : decode cX9_passed 85 = .ok (.iaload, 1) := by decide +kernel
theorem dX9_passed_86 : decode cX9_passed 86 = .ok (.if_icmp .le 22, 3) := by decide +kernel
theorem dX9_passed_89 : decode cX9_passed 89 = .ok (.aload_n 0, 1) := by decide +kernel
theorem dX9_passed_90 : decode cX9_passed 90 = .ok (.getfield 91, 3) := by decide +kernel
theorem dX9_passed_93 : decode cX9_passed 93 = .ok (.iload_n 1, 1) := by decide +kernel
theorem dX9_passed_94 : decode cX9_passed 94 = .ok (.iaload, 1) := by decide +kernel
theorem dX9_passed_95 : decode cX9_passed 95 = .ok (.aload_n 0, 1) := by decide +kernel
theorem dX9_passed_96 : decode cX9_passed 96 = .ok (.getfield 91, 3) := by decide +kernel
theorem dX9_passed_99 : decode cX9_passed 99 = .ok (.iload_n 2, 1) := by decide +kernel
theorem dX9_passed_100 : decode cX9_passed 100 = .ok (.iaload, 1) := by decide +kernel
theorem dX9_passed_101 : decode cX9_passed 101 = .ok (.if_icmp .ge 7, 3) := by decide +kernel
theorem dX9_passed_104 : decode cX9_passed 104 = .ok (.iconst 1, 1) := by decide +kernel
theorem dX9_passed_105 : decode cX9_passed 105 = .ok (.goto 4, 3) := by decide +kernel
theorem dX9_passed_108 : decode cX9_passed 108 = .ok (.iconst 0, 1) := by decide +kernel
theorem dX9_passed_109 : decode cX9_passed 109 = .ok (.ireturn, 1) := by decide +kernel
theorem dX9_beside_0 : decode cX9_beside 0 = .ok (.iload_n 1, 1) := by decide +kernel
theorem dX9_beside_1 : decode cX9_beside 1 = .ok (.iconst 0, 1) := by decide +kernel
theorem dX9_beside_2 : decode cX9_beside 2 = .ok (.aload_n 0, 1) := by decide +kernel
theorem dX9_beside_3 : decode cX9_beside 3 = .ok (.getfield 170, 3) := by decide +kernel
theorem dX9_beside_6 : decode cX9_beside 6 = .ok (.iconst 1, 1) := by decide +kernel
theorem dX9_beside_7 : decode cX9_beside 7 = .ok (.isub, 1) := by decide +kernel
theorem dX9_beside_8 : decode cX9_beside 8 = .ok (.invokestatic 122, 3) := by decide +kernel
theorem dX9_beside_11 : decode cX9_beside 11 = .ok (.ifCond .ne 5, 3) := by decide +kernel
theorem dX9_beside_14 : decode cX9_beside 14 = .ok (.iconst (-1), 1) := by decide +kernel
theorem dX9_beside_15 : decode cX9_beside 15 = .ok (.ireturn, 1) := by decide +kernel
theorem dX9_beside_16 : decode cX9_beside 16 = .ok (.aload_n 0, 1) := by decide +kernel
theorem dX9_beside_17 : decode cX9_beside 17 = .ok (.getfield 136, 3) := by decide +kernel
theorem dX9_beside_20 : decode cX9_beside 20 = .ok (.ifCond .ne 6, 3) := by decide +kernel
theorem dX9_beside_23 : decode cX9_beside 23 = .ok (.bipush (-4), 2) := by decide +kernel
theorem dX9_beside_25 : decode cX9_beside 25 = .ok (.ireturn, 1) := by decide +kernel
theorem dX9_beside_26 : decode cX9_beside 26 = .ok (.iconst 0, 1) := by decide +kernel
theorem dX9_beside_27 : decode cX9_beside 27 = .ok (.istore_n 2, 1) := by decide +kernel
theorem dX9_beside_28 : decode cX9_beside 28 = .ok (.iload_n 2, 1) := by decide +kernel
theorem dX9_beside_29 : decode cX9_beside 29 = .ok (.bipush 16, 2) := by decide +kernel
theorem dX9_beside_31 : decode cX9_beside 31 = .ok (.if_icmp .ge 86, 3) := by decide +kernel
theorem dX9_beside_34 : decode cX9_beside 34 = .ok (.iload_n 2, 1) := by decide +kernel
theorem dX9_beside_35 : decode cX9_beside 35 = .ok (.aload_n 0, 1) := by decide +kernel
theorem dX9_beside_36 : decode cX9_beside 36 = .ok (.getfield 57, 3) := by decide +kernel
theorem dX9_beside_39 : decode cX9_beside 39 = .ok (.iload_n 1, 1) := by decide +kernel
theorem dX9_beside_40 : decode cX9_beside 40 = .ok (.iaload, 1) := by decide +kernel
theorem dX9_beside_41 : decode cX9_beside 41 = .ok (.if_icmp .eq 13, 3) := by decide +kernel
theorem dX9_beside_44 : decode cX9_beside 44 = .ok (.iload_n 2, 1) := by decide +kernel
theorem dX9_beside_45 : decode cX9_beside 45 = .ok (.aload_n 0, 1) := by decide +kernel
theorem dX9_beside_46 : decode cX9_beside 46 = .ok (.getfield 60, 3) := by decide +kernel
theorem dX9_beside_49 : decode cX9_beside 49 = .ok (.iload_n 1, 1) := by decide +kernel
theorem dX9_beside_50 : decode cX9_beside 50 = .ok (.iaload, 1) := by decide +kernel
theorem dX9_beside_51 : decode cX9_beside 51 = .ok (.if_icmp .ne 7, 3) := by decide +kernel
theorem dX9_beside_54 : decode cX9_beside 54 = .ok (.iconst 1, 1) := by decide +kernel
theorem dX9_beside_55 : decode cX9_beside 55 = .ok (.goto 4, 3) := by decide +kernel
theorem dX9_beside_58 : decode cX9_beside 58 = .ok (.iconst 0, 1) := by decide +kernel
theorem dX9_beside_59 : decode cX9_beside 59 = .ok (.istore_n 3, 1) := by decide +kernel
theorem dX9_beside_60 : decode cX9_beside 60 = .ok (.aload_n 0, 1) := by decide +kernel
theorem dX9_beside_61 : decode cX9_beside 61 = .ok (.getfield 103, 3) := by decide +kernel
theorem dX9_beside_64 : decode cX9_beside 64 = .ok (.iload_n 2, 1) := by decide +kernel
theorem dX9_beside_65 : decode cX9_beside 65 = .ok (.aload_n 0, 1) := by decide +kernel
theorem dX9_beside_66 : decode cX9_beside 66 = .ok (.getfield 29, 3) := by decide +kernel
theorem dX9_beside_69 : decode cX9_beside 69 = .ok (.iload_n 2, 1) := by decide +kernel
theorem dX9_beside_70 : decode cX9_beside 70 = .ok (.iaload, 1) := by decide +kernel
theorem dX9_beside_71 : decode cX9_beside 71 = .ok (.aload_n 0, 1) := by decide +kernel
theorem dX9_beside_72 : decode cX9_beside 72 = .ok (.getfield 32, 3) := by decide +kernel
theorem dX9_beside_75 : decode cX9_beside 75 = .ok (.iload_n 2, 1) := by decide +kernel
theorem dX9_beside_76 : decode cX9_beside 76 = .ok (.iaload, 1) := by decide +kernel
theorem dX9_beside_77 : decode cX9_beside 77 = .ok (.isub, 1) := by decide +kernel
theorem dX9_beside_78 : decode cX9_beside 78 = .ok (.iload_n 3, 1) := by decide +kernel
theorem dX9_beside_79 : decode cX9_beside 79 = .ok (.ifCond .eq 21, 3) := by decide +kernel
theorem dX9_beside_82 : decode cX9_beside 82 = .ok (.iload_n 2, 1) := by decide +kernel
theorem dX9_beside_83 : decode cX9_beside 83 = .ok (.aload_n 0, 1) := by decide +kernel
theorem dX9_beside_84 : decode cX9_beside 84 = .ok (.getfield 63, 3) := by decide +kernel
theorem dX9_beside_87 : decode cX9_beside 87 = .ok (.iload_n 1, 1) := by decide +kernel
theorem dX9_beside_88 : decode cX9_beside 88 = .ok (.iaload, 1) := by decide +kernel
end
section
theorem dX9_beside_89 : decode cX9_beside 89 = .ok (.if_icmp .ne 7, 3) := by decide +kernel
theorem dX9_beside_92 : decode cX9_beside 92 = .ok (.iconst (-1), 1) := by decide +kernel
theorem dX9_beside_93 : decode cX9_beside 93 = .ok (.goto 8, 3) := by decide +kernel
theorem dX9_beside_96 : decode cX9_beside 96 = .ok (.iconst 1, 1) := by decide +kernel
theorem dX9_beside_97 : decode cX9_beside 97 = .ok (.goto 4, 3) := by decide +kernel
theorem dX9_beside_100 : decode cX9_beside 100 = .ok (.iconst 0, 1) := by decide +kernel
theorem dX9_beside_101 : decode cX9_beside 101 = .ok (.iadd, 1) := by decide +kernel
theorem dX9_beside_102 : decode cX9_beside 102 = .ok (.iastore, 1) := by decide +kernel
theorem dX9_beside_103 : decode cX9_beside 103 = .ok (.aload_n 0, 1) := by decide +kernel
theorem dX9_beside_104 : decode cX9_beside 104 = .ok (.getfield 94, 3) := by decide +kernel
theorem dX9_beside_107 : decode cX9_beside 107 = .ok (.iload_n 2, 1) := by decide +kernel
theorem dX9_beside_108 : decode cX9_beside 108 = .ok (.bipush (-9), 2) := by decide +kernel
theorem dX9_beside_110 : decode cX9_beside 110 = .ok (.iastore, 1) := by decide +kernel
theorem dX9_beside_111 : decode cX9_beside 111 = .ok (.iinc 2 1, 3) := by decide +kernel
theorem dX9_beside_114 : decode cX9_beside 114 = .ok (.goto (-86), 3) := by decide +kernel
theorem dX9_beside_117 : decode cX9_beside 117 = .ok (.aload_n 0, 1) := by decide +kernel
theorem dX9_beside_118 : decode cX9_beside 118 = .ok (.aload_n 0, 1) := by decide +kernel
theorem dX9_beside_119 : decode cX9_beside 119 = .ok (.getfield 106, 3) := by decide +kernel
theorem dX9_beside_122 : decode cX9_beside 122 = .ok (.aload_n 0, 1) := by decide +kernel
theorem dX9_beside_123 : decode cX9_beside 123 = .ok (.getfield 103, 3) := by decide +kernel
theorem dX9_beside_126 : decode cX9_beside 126 = .ok (.aload_n 0, 1) := by decide +kernel
theorem dX9_beside_127 : decode cX9_beside 127 = .ok (.getfield 223, 3) := by decide +kernel
theorem dX9_beside_130 : decode cX9_beside 130 = .ok (.invokevirtual 219, 3) := by decide +kernel
theorem dX9_beside_133 : decode cX9_beside 133 = .ok (.iconst 0, 1) := by decide +kernel
theorem dX9_beside_134 : decode cX9_beside 134 = .ok (.istore_n 2, 1) := by decide +kernel
theorem dX9_beside_135 : decode cX9_beside 135 = .ok (.iconst 0, 1) := by decide +kernel
theorem dX9_beside_136 : decode cX9_beside 136 = .ok (.istore_n 3, 1) := by decide +kernel
theorem dX9_beside_137 : decode cX9_beside 137 = .ok (.iload_n 3, 1) := by decide +kernel
theorem dX9_beside_138 : decode cX9_beside 138 = .ok (.aload_n 0, 1) := by decide +kernel
theorem dX9_beside_139 : decode cX9_beside 139 = .ok (.getfield 126, 3) := by decide +kernel
theorem dX9_beside_142 : decode cX9_beside 142 = .ok (.if_icmp .ge 44, 3) := by decide +kernel
theorem dX9_beside_145 : decode cX9_beside 145 = .ok (.aload_n 0, 1) := by decide +kernel
theorem dX9_beside_146 : decode cX9_beside 146 = .ok (.getfield 94, 3) := by decide +kernel
theorem dX9_beside_149 : decode cX9_beside 149 = .ok (.aload_n 0, 1) := by decide +kernel
theorem dX9_beside_150 : decode cX9_beside 150 = .ok (.getfield 100, 3) := by decide +kernel
theorem dX9_beside_153 : decode cX9_beside 153 = .ok (.iload_n 3, 1) := by decide +kernel
theorem dX9_beside_154 : decode cX9_beside 154 = .ok (.iaload, 1) := by decide +kernel
theorem dX9_beside_155 : decode cX9_beside 155 = .ok (.iload_n 3, 1) := by decide +kernel
theorem dX9_beside_156 : decode cX9_beside 156 = .ok (.iastore, 1) := by decide +kernel
theorem dX9_beside_157 : decode cX9_beside 157 = .ok (.iload_n 2, 1) := by decide +kernel
theorem dX9_beside_158 : decode cX9_beside 158 = .ok (.aload_n 0, 1) := by decide +kernel
theorem dX9_beside_159 : decode cX9_beside 159 = .ok (.getfield 91, 3) := by decide +kernel
theorem dX9_beside_162 : decode cX9_beside 162 = .ok (.aload_n 0, 1) := by decide +kernel
theorem dX9_beside_163 : decode cX9_beside 163 = .ok (.getfield 100, 3) := by decide +kernel
theorem dX9_beside_166 : decode cX9_beside 166 = .ok (.iload_n 3, 1) := by decide +kernel
theorem dX9_beside_167 : decode cX9_beside 167 = .ok (.iaload, 1) := by decide +kernel
theorem dX9_beside_168 : decode cX9_beside 168 = .ok (.iaload, 1) := by decide +kernel
theorem dX9_beside_169 : decode cX9_beside 169 = .ok (.iload_n 3, 1) := by decide +kernel
theorem dX9_beside_170 : decode cX9_beside 170 = .ok (.if_icmp .ne 7, 3) := by decide +kernel
theorem dX9_beside_173 : decode cX9_beside 173 = .ok (.iconst 0, 1) := by decide +kernel
theorem dX9_beside_174 : decode cX9_beside 174 = .ok (.goto 4, 3) := by decide +kernel
theorem dX9_beside_177 : decode cX9_beside 177 = .ok (.iconst 1, 1) := by decide +kernel
theorem dX9_beside_178 : decode cX9_beside 178 = .ok (.iadd, 1) := by decide +kernel
theorem dX9_beside_179 : decode cX9_beside 179 = .ok (.istore_n 2, 1) := by decide +kernel
theorem dX9_beside_180 : decode cX9_beside 180 = .ok (.iinc 3 1, 3) := by decide +kernel
theorem dX9_beside_183 : decode cX9_beside 183 = .ok (.goto (-46), 3) := by decide +kernel
theorem dX9_beside_186 : decode cX9_beside 186 = .ok (.iload_n 2, 1) := by decide +kernel
theorem dX9_beside_187 : decode cX9_beside 187 = .ok (.ireturn, 1) := by decide +kernel
theorem dX9_rungBeside_0 : decode cX9_rungBeside 0 = .ok (.aload_n 0, 1) := by decide +kernel
theorem dX9_rungBeside_1 : decode cX9_rungBeside 1 = .ok (.iconst 1, 1) := by decide +kernel
theorem dX9_rungBeside_2 : decode cX9_rungBeside 2 = .ok (.iload_n 1, 1) := by decide +kernel
theorem dX9_rungBeside_3 : decode cX9_rungBeside 3 = .ok (.invokevirtual 150, 3) := by decide +kernel
theorem dX9_rungBeside_6 : decode cX9_rungBeside 6 = .ok (.istore_n 2, 1) := by decide +kernel
theorem dX9_rungBeside_7 : decode cX9_rungBeside 7 = .ok (.iload_n 2, 1) := by decide +kernel
theorem dX9_rungBeside_8 : decode cX9_rungBeside 8 = .ok (.ifCond .ge 7, 3) := by decide +kernel
theorem dX9_rungBeside_11 : decode cX9_rungBeside 11 = .ok (.iload_n 2, 1) := by decide +kernel
theorem dX9_rungBeside_12 : decode cX9_rungBeside 12 = .ok (.goto 9, 3) := by decide +kernel
theorem dX9_rungBeside_15 : decode cX9_rungBeside 15 = .ok (.aload_n 0, 1) := by decide +kernel
theorem dX9_rungBeside_16 : decode cX9_rungBeside 16 = .ok (.getfield 94, 3) := by decide +kernel
theorem dX9_rungBeside_19 : decode cX9_rungBeside 19 = .ok (.iload_n 1, 1) := by decide +kernel
theorem dX9_rungBeside_20 : decode cX9_rungBeside 20 = .ok (.iaload, 1) := by decide +kernel
theorem dX9_rungBeside_21 : decode cX9_rungBeside 21 = .ok (.ireturn, 1) := by decide +kernel
theorem dX9_leaderBits_0 : decode cX9_leaderBits 0 = .ok (.iconst 0, 1) := by decide +kernel
theorem dX9_leaderBits_1 : decode cX9_leaderBits 1 = .ok (.istore_n 1, 1) := by decide +kernel
theorem dX9_leaderBits_2 : decode cX9_leaderBits 2 = .ok (.iconst 0, 1) := by decide +kernel
theorem dX9_leaderBits_3 : decode cX9_leaderBits 3 = .ok (.istore_n 2, 1) := by decide +kernel
theorem dX9_leaderBits_4 : decode cX9_leaderBits 4 = .ok (.iload_n 2, 1) := by decide +kernel
theorem dX9_leaderBits_5 : decode cX9_leaderBits 5 = .ok (.aload_n 0, 1) := by decide +kernel
theorem dX9_leaderBits_6 : decode cX9_leaderBits 6 = .ok (.getfield 126, 3) := by decide +kernel
theorem dX9_leaderBits_9 : decode cX9_leaderBits 9 = .ok (.if_icmp .ge 40, 3) := by decide +kernel
theorem dX9_leaderBits_12 : decode cX9_leaderBits 12 = .ok (.aload_n 0, 1) := by decide +kernel
theorem dX9_leaderBits_13 : decode cX9_leaderBits 13 = .ok (.getfield 29, 3) := by decide +kernel
theorem dX9_leaderBits_16 : decode cX9_leaderBits 16 = .ok (.aload_n 0, 1) := by decide +kernel
theorem dX9_leaderBits_17 : decode cX9_leaderBits 17 = .ok (.getfield 41, 3) := by decide +kernel
theorem dX9_leaderBits_20 : decode cX9_leaderBits 20 = .ok (.iload_n 2, 1) := by decide +kernel
theorem dX9_leaderBits_21 : decode cX9_leaderBits 21 = .ok (.iaload, 1) := by decide +kernel
theorem dX9_leaderBits_22 : decode cX9_leaderBits 22 = .ok (.iaload, 1) := by decide +kernel
theorem dX9_leaderBits_23 : decode cX9_leaderBits 23 = .ok (.iload_n 1, 1) := by decide +kernel
theorem dX9_leaderBits_24 : decode cX9_leaderBits 24 = .ok (.if_icmp .le 17, 3) := by decide +kernel
theorem dX9_leaderBits_27 : decode cX9_leaderBits 27 = .ok (.aload_n 0, 1) := by decide +kernel
theorem dX9_leaderBits_28 : decode cX9_leaderBits 28 = .ok (.getfield 29, 3) := by decide +kernel
theorem dX9_leaderBits_31 : decode cX9_leaderBits 31 = .ok (.aload_n 0, 1) := by decide +kernel
theorem dX9_leaderBits_32 : decode cX9_leaderBits 32 = .ok (.getfield 41, 3) := by decide +kernel
theorem dX9_leaderBits_35 : decode cX9_leaderBits 35 = .ok (.iload_n 2, 1) := by decide +kernel
theorem dX9_leaderBits_36 : decode cX9_leaderBits 36 = .ok (.iaload, 1) := by decide +kernel
theorem dX9_leaderBits_37 : decode cX9_leaderBits 37 = .ok (.iaload, 1) := by decide +kernel
theorem dX9_leaderBits_38 : decode cX9_leaderBits 38 = .ok (.goto 4, 3) := by decide +kernel
theorem dX9_leaderBits_41 : decode cX9_leaderBits 41 = .ok (.iload_n 1, 1) := by decide +kernel
theorem dX9_leaderBits_42 : decode cX9_leaderBits 42 = .ok (.istore_n 1, 1) := by decide +kernel
theorem dX9_leaderBits_43 : decode cX9_leaderBits 43 = .ok (.iinc 2 1, 3) := by decide +kernel
theorem dX9_leaderBits_46 : decode cX9_leaderBits 46 = .ok (.goto (-42), 3) := by decide +kernel
theorem dX9_leaderBits_49 : decode cX9_leaderBits 49 = .ok (.iconst 0, 1) := by decide +kernel
theorem dX9_leaderBits_50 : decode cX9_leaderBits 50 = .ok (.istore_n 2, 1) := by decide +kernel
theorem dX9_leaderBits_51 : decode cX9_leaderBits 51 = .ok (.iconst 0, 1) := by decide +kernel
theorem dX9_leaderBits_52 : decode cX9_leaderBits 52 = .ok (.istore_n 3, 1) := by decide +kernel
theorem dX9_leaderBits_53 : decode cX9_leaderBits 53 = .ok (.iload_n 3, 1) := by decide +kernel
theorem dX9_leaderBits_54 : decode cX9_leaderBits 54 = .ok (.aload_n 0, 1) := by decide +kernel
theorem dX9_leaderBits_55 : decode cX9_leaderBits 55 = .ok (.getfield 126, 3) := by decide +kernel
theorem dX9_leaderBits_58 : decode cX9_leaderBits 58 = .ok (.if_icmp .ge 39, 3) := by decide +kernel
theorem dX9_leaderBits_61 : decode cX9_leaderBits 61 = .ok (.iload_n 2, 1) := by decide +kernel
theorem dX9_leaderBits_62 : decode cX9_leaderBits 62 = .ok (.aload_n 0, 1) := by decide +kernel
theorem dX9_leaderBits_63 : decode cX9_leaderBits 63 = .ok (.getfield 29, 3) := by decide +kernel
theorem dX9_leaderBits_66 : decode cX9_leaderBits 66 = .ok (.aload_n 0, 1) := by decide +kernel
theorem dX9_leaderBits_67 : decode cX9_leaderBits 67 = .ok (.getfield 41, 3) := by decide +kernel
theorem dX9_leaderBits_70 : decode cX9_leaderBits 70 = .ok (.iload_n 3, 1) := by decide +kernel
theorem dX9_leaderBits_71 : decode cX9_leaderBits 71 = .ok (.iaload, 1) := by decide +kernel
theorem dX9_leaderBits_72 : decode cX9_leaderBits 72 = .ok (.iaload, 1) := by decide +kernel
theorem dX9_leaderBits_73 : decode cX9_leaderBits 73 = .ok (.iload_n 1, 1) := by decide +kernel
theorem dX9_leaderBits_74 : decode cX9_leaderBits 74 = .ok (.if_icmp .ne 14, 3) := by decide +kernel
theorem dX9_leaderBits_77 : decode cX9_leaderBits 77 = .ok (.iconst 1, 1) := by decide +kernel
theorem dX9_leaderBits_78 : decode cX9_leaderBits 78 = .ok (.aload_n 0, 1) := by decide +kernel
theorem dX9_leaderBits_79 : decode cX9_leaderBits 79 = .ok (.getfield 41, 3) := by decide +kernel
theorem dX9_leaderBits_82 : decode cX9_leaderBits 82 = .ok (.iload_n 3, 1) := by decide +kernel
theorem dX9_leaderBits_83 : decode cX9_leaderBits 83 = .ok (.iaload, 1) := by decide +kernel
theorem dX9_leaderBits_84 : decode cX9_leaderBits 84 = .ok (.ishl, 1) := by decide +kernel
theorem dX9_leaderBits_85 : decode cX9_leaderBits 85 = .ok (.goto 4, 3) := by decide +kernel
theorem dX9_leaderBits_88 : decode cX9_leaderBits 88 = .ok (.iconst 0, 1) := by decide +kernel
theorem dX9_leaderBits_89 : decode cX9_leaderBits 89 = .ok (.ior, 1) := by decide +kernel
theorem dX9_leaderBits_90 : decode cX9_leaderBits 90 = .ok (.istore_n 2, 1) := by decide +kernel
theorem dX9_leaderBits_91 : decode cX9_leaderBits 91 = .ok (.iinc 3 1, 3) := by decide +kernel
theorem dX9_leaderBits_94 : decode cX9_leaderBits 94 = .ok (.goto (-41), 3) := by decide +kernel
theorem dX9_leaderBits_97 : decode cX9_leaderBits 97 = .ok (.iload_n 2, 1) := by decide +kernel
theorem dX9_leaderBits_98 : decode cX9_leaderBits 98 = .ok (.ireturn, 1) := by decide +kernel
theorem dX9_leaders_0 : decode cX9_leaders 0 = .ok (.aload_n 0, 1) := by decide +kernel
theorem dX9_leaders_1 : decode cX9_leaders 1 = .ok (.getfield 132, 3) := by decide +kernel
theorem dX9_leaders_4 : decode cX9_leaders 4 = .ok (.ifCond .eq 10, 3) := by decide +kernel
theorem dX9_leaders_7 : decode cX9_leaders 7 = .ok (.aload_n 0, 1) := by decide +kernel
theorem dX9_leaders_8 : decode cX9_leaders 8 = .ok (.invokevirtual 229, 3) := by decide +kernel
theorem dX9_leaders_11 : decode cX9_leaders 11 = .ok (.goto 5, 3) := by decide +kernel
theorem dX9_leaders_14 : decode cX9_leaders 14 = .ok (.bipush (-4), 2) := by decide +kernel
theorem dX9_leaders_16 : decode cX9_leaders 16 = .ok (.ireturn, 1) := by decide +kernel
theorem dX9_left_0 : decode cX9_left 0 = .ok (.aload_n 0, 1) := by decide +kernel
theorem dX9_left_1 : decode cX9_left 1 = .ok (.getfield 216, 3) := by decide +kernel
theorem dX9_left_4 : decode cX9_left 4 = .ok (.iconst 1, 1) := by decide +kernel
theorem dX9_left_5 : decode cX9_left 5 = .ok (.if_icmp .ne 33, 3) := by decide +kernel
theorem dX9_left_8 : decode cX9_left 8 = .ok (.aload_n 0, 1) := by decide +kernel
theorem dX9_left_9 : decode cX9_left 9 = .ok (.aload_n 0, 1) := by decide +kernel
theorem dX9_left_10 : decode cX9_left 10 = .ok (.getfield 109, 3) := by decide +kernel
theorem dX9_left_13 : decode cX9_left 13 = .ok (.iconst 0, 1) := by decide +kernel
theorem dX9_left_14 : decode cX9_left 14 = .ok (.iaload, 1) := by decide +kernel
theorem dX9_left_15 : decode cX9_left 15 = .ok (.putfield 116, 3) := by decide +kernel
theorem dX9_left_18 : decode cX9_left 18 = .ok (.aload_n 0, 1) := by decide +kernel
theorem dX9_left_19 : decode cX9_left 19 = .ok (.getfield 35, 3) := by decide +kernel
theorem dX9_left_22 : decode cX9_left 22 = .ok (.aload_n 0, 1) := by decide +kernel
theorem dX9_left_23 : decode cX9_left 23 = .ok (.getfield 116, 3) := by decide +kernel
theorem dX9_left_26 : decode cX9_left 26 = .ok (.dup2, 1) := by decide +kernel
theorem dX9_left_27 : decode cX9_left 27 = .ok (.iaload, 1) := by decide +kernel
theorem dX9_left_28 : decode cX9_left 28 = .ok (.iconst 1, 1) := by decide +kernel
theorem dX9_left_29 : decode cX9_left 29 = .ok (.iadd, 1) := by decide +kernel
theorem dX9_left_30 : decode cX9_left 30 = .ok (.iastore, 1) := by decide +kernel
theorem dX9_left_31 : decode cX9_left 31 = .ok (.aload_n 0, 1) := by decide +kernel
theorem dX9_left_32 : decode cX9_left 32 = .ok (.iconst 0, 1) := by decide +kernel
theorem dX9_left_33 : decode cX9_left 33 = .ok (.putfield 216, 3) := by decide +kernel
theorem dX9_left_36 : decode cX9_left 36 = .ok (.iconst 1, 1) := by decide +kernel
theorem dX9_left_37 : decode cX9_left 37 = .ok (.ireturn, 1) := by decide +kernel
theorem dX9_left_38 : decode cX9_left 38 = .ok (.aload_n 0, 1) := by decide +kernel
theorem dX9_left_39 : decode cX9_left 39 = .ok (.getfield 216, 3) := by decide +kernel
theorem dX9_left_42 : decode cX9_left 42 = .ok (.ireturn, 1) := by decide +kernel
theorem dX9_playOff_0 : decode cX9_playOff 0 = .ok (.aload_n 0, 1) := by decide +kernel
theorem dX9_playOff_1 : decode cX9_playOff 1 = .ok (.getfield 132, 3) := by decide +kernel
theorem dX9_playOff_4 : decode cX9_playOff 4 = .ok (.ifCond .eq 35, 3) := by decide +kernel
theorem dX9_playOff_7 : decode cX9_playOff 7 = .ok (.aload_n 0, 1) := by decide +kernel
theorem dX9_playOff_8 : decode cX9_playOff 8 = .ok (.getfield 167, 3) := by decide +kernel
theorem dX9_playOff_11 : decode cX9_playOff 11 = .ok (.aload_n 0, 1) := by decide +kernel
theorem dX9_playOff_12 : decode cX9_playOff 12 = .ok (.getfield 164, 3) := by decide +kernel
theorem dX9_playOff_15 : decode cX9_playOff 15 = .ok (.if_icmp .lt 24, 3) := by decide +kernel
theorem dX9_playOff_18 : decode cX9_playOff 18 = .ok (.aload_n 0, 1) := by decide +kernel
theorem dX9_playOff_19 : decode cX9_playOff 19 = .ok (.getfield 173, 3) := by decide +kernel
theorem dX9_playOff_22 : decode cX9_playOff 22 = .ok (.ifCond .gt 17, 3) := by decide +kernel
theorem dX9_playOff_25 : decode cX9_playOff 25 = .ok (.aload_n 0, 1) := by decide +kernel
theorem dX9_playOff_26 : decode cX9_playOff 26 = .ok (.getfield 176, 3) := by decide +kernel
theorem dX9_playOff_29 : decode cX9_playOff 29 = .ok (.ifCond .ne 10, 3) := by decide +kernel
theorem dX9_playOff_32 : decode cX9_playOff 32 = .ok (.aload_n 0, 1) := by decide +kernel
theorem dX9_playOff_33 : decode cX9_playOff 33 = .ok (.getfield 126, 3) := by decide +kernel
theorem dX9_playOff_36 : decode cX9_playOff 36 = .ok (.ifCond .ne 6, 3) := by decide +kernel
theorem dX9_playOff_39 : decode cX9_playOff 39 = .ok (.bipush (-4), 2) := by decide +kernel
theorem dX9_playOff_41 : decode cX9_playOff 41 = .ok (.ireturn, 1) := by decide +kernel
theorem dX9_playOff_42 : decode cX9_playOff 42 = .ok (.aload_n 0, 1) := by decide +kernel
theorem dX9_playOff_43 : decode cX9_playOff 43 = .ok (.iconst 1, 1) := by decide +kernel
theorem dX9_playOff_44 : decode cX9_playOff 44 = .ok (.putfield 176, 3) := by decide +kernel
theorem dX9_playOff_47 : decode cX9_playOff 47 = .ok (.aload_n 0, 1) := by decide +kernel
theorem dX9_playOff_48 : decode cX9_playOff 48 = .ok (.invokevirtual 229, 3) := by decide +kernel
theorem dX9_playOff_51 : decode cX9_playOff 51 = .ok (.istore_n 1, 1) := by decide +kernel
theorem dX9_playOff_52 : decode cX9_playOff 52 = .ok (.aload_n 0, 1) := by decide +kernel
theorem dX9_playOff_53 : decode cX9_playOff 53 = .ok (.iconst 0, 1) := by decide +kernel
theorem dX9_playOff_54 : decode cX9_playOff 54 = .ok (.putfield 216, 3) := by decide +kernel
theorem dX9_playOff_57 : decode cX9_playOff 57 = .ok (.iconst 0, 1) := by decide +kernel
theorem dX9_playOff_58 : decode cX9_playOff 58 = .ok (.istore_n 2, 1) := by decide +kernel
theorem dX9_playOff_59 : decode cX9_playOff 59 = .ok (.iload_n 2, 1) := by decide +kernel
theorem dX9_playOff_60 : decode cX9_playOff 60 = .ok (.aload_n 0, 1) := by decide +kernel
theorem dX9_playOff_61 : decode cX9_playOff 61 = .ok (.getfield 126, 3) := by decide +kernel
theorem dX9_playOff_64 : decode cX9_playOff 64 = .ok (.if_icmp .ge 48, 3) := by decide +kernel
theorem dX9_playOff_67 : decode cX9_playOff 67 = .ok (.iload_n 1, 1) := by decide +kernel
theorem dX9_playOff_68 : decode cX9_playOff 68 = .ok (.aload_n 0, 1) := by decide +kernel
theorem dX9_playOff_69 : decode cX9_playOff 69 = .ok (.getfield 41, 3) := by decide +kernel
theorem dX9_playOff_72 : decode cX9_playOff 72 = .ok (.iload_n 2, 1) := by decide +kernel
theorem dX9_playOff_73 : decode cX9_playOff 73 = .ok (.iaload, 1) := by decide +kernel
theorem dX9_playOff_74 : decode cX9_playOff 74 = .ok (.ishr, 1) := by decide +kernel
theorem dX9_playOff_75 : decode cX9_playOff 75 = .ok (.iconst 1, 1) := by decide +kernel
theorem dX9_playOff_76 : decode cX9_playOff 76 = .ok (.iand, 1) := by decide +kernel
theorem dX9_playOff_77 : decode cX9_playOff 77 = .ok (.iconst 1, 1) := by decide +kernel
theorem dX9_playOff_78 : decode cX9_playOff 78 = .ok (.if_icmp .ne 28, 3) := by decide +kernel
theorem dX9_playOff_81 : decode cX9_playOff 81 = .ok (.aload_n 0, 1) := by decide +kernel
theorem dX9_playOff_82 : decode cX9_playOff 82 = .ok (.getfield 109, 3) := by decide +kernel
theorem dX9_playOff_85 : decode cX9_playOff 85 = .ok (.aload_n 0, 1) := by decide +kernel
theorem dX9_playOff_86 : decode cX9_playOff 86 = .ok (.getfield 216, 3) := by decide +kernel
theorem dX9_playOff_89 : decode cX9_playOff 89 = .ok (.aload_n 0, 1) := by decide +kernel
theorem dX9_playOff_90 : decode cX9_playOff 90 = .ok (.getfield 41, 3) := by decide +kernel
theorem dX9_playOff_93 : decode cX9_playOff 93 = .ok (.iload_n 2, 1) := by decide +kernel
theorem dX9_playOff_94 : decode cX9_playOff 94 = .ok (.iaload, 1) := by decide +kernel
theorem dX9_playOff_95 : decode cX9_playOff 95 = .ok (.iastore, 1) := by decide +kernel
theorem dX9_playOff_96 : decode cX9_playOff 96 = .ok (.aload_n 0, 1) := by decide +kernel
theorem dX9_playOff_97 : decode cX9_playOff 97 = .ok (.dup, 1) := by decide +kernel
theorem dX9_playOff_98 : decode cX9_playOff 98 = .ok (.getfield 216, 3) := by decide +kernel
theorem dX9_playOff_101 : decode cX9_playOff 101 = .ok (.iconst 1, 1) := by decide +kernel
theorem dX9_playOff_102 : decode cX9_playOff 102 = .ok (.iadd, 1) := by decide +kernel
theorem dX9_playOff_103 : decode cX9_playOff 103 = .ok (.putfield 216, 3) := by decide +kernel
theorem dX9_playOff_106 : decode cX9_playOff 106 = .ok (.iinc 2 1, 3) := by decide +kernel
theorem dX9_playOff_109 : decode cX9_playOff 109 = .ok (.goto (-50), 3) := by decide +kernel
theorem dX9_playOff_112 : decode cX9_playOff 112 = .ok (.aload_n 0, 1) := by decide +kernel
theorem dX9_playOff_113 : decode cX9_playOff 113 = .ok (.invokevirtual 233, 3) := by decide +kernel
theorem dX9_playOff_116 : decode cX9_playOff 116 = .ok (.ireturn, 1) := by decide +kernel
theorem dX9_meets__0 : decode cX9_meets_ 0 = .ok (.aload_n 0, 1) := by decide +kernel
theorem dX9_meets__1 : decode cX9_meets_ 1 = .ok (.getfield 216, 3) := by decide +kernel
theorem dX9_meets__4 : decode cX9_meets_ 4 = .ok (.iconst 2, 1) := by decide +kernel
theorem dX9_meets__5 : decode cX9_meets_ 5 = .ok (.if_icmp .ge 8, 3) := by decide +kernel
theorem dX9_meets__8 : decode cX9_meets_ 8 = .ok (.bipush (-9), 2) := by decide +kernel
theorem dX9_meets__10 : decode cX9_meets_ 10 = .ok (.goto 17, 3) := by decide +kernel
theorem dX9_meets__13 : decode cX9_meets_ 13 = .ok (.aload_n 0, 1) := by decide +kernel
theorem dX9_meets__14 : decode cX9_meets_ 14 = .ok (.getfield 109, 3) := by decide +kernel
theorem dX9_meets__17 : decode cX9_meets_ 17 = .ok (.iload_n 1, 1) := by decide +kernel
theorem dX9_meets__18 : decode cX9_meets_ 18 = .ok (.ifCond .eq 7, 3) := by decide +kernel
theorem dX9_meets__21 : decode cX9_meets_ 21 = .ok (.iconst 1, 1) := by decide +kernel
theorem dX9_meets__22 : decode cX9_meets_ 22 = .ok (.goto 4, 3) := by decide +kernel
theorem dX9_meets__25 : decode cX9_meets_ 25 = .ok (.iconst 0, 1) := by decide +kernel
theorem dX9_meets__26 : decode cX9_meets_ 26 = .ok (.iaload, 1) := by decide +kernel
theorem dX9_meets__27 : decode cX9_meets_ 27 = .ok (.ireturn, 1) := by decide +kernel
theorem dX9_wins_0 : decode cX9_wins 0 = .ok (.aload_n 0, 1) := by decide +kernel
theorem dX9_wins_1 : decode cX9_wins 1 = .ok (.getfield 216, 3) := by decide +kernel
theorem dX9_wins_4 : decode cX9_wins 4 = .ok (.iconst 2, 1) := by decide +kernel
theorem dX9_wins_5 : decode cX9_wins 5 = .ok (.if_icmp .ge 6, 3) := by decide +kernel
theorem dX9_wins_8 : decode cX9_wins 8 = .ok (.bipush (-4), 2) := by decide +kernel
theorem dX9_wins_10 : decode cX9_wins 10 = .ok (.ireturn, 1) := by decide +kernel
theorem dX9_wins_11 : decode cX9_wins 11 = .ok (.aload_n 0, 1) := by decide +kernel
theorem dX9_wins_12 : decode cX9_wins 12 = .ok (.getfield 109, 3) := by decide +kernel
theorem dX9_wins_15 : decode cX9_wins 15 = .ok (.iload_n 1, 1) := by decide +kernel
theorem dX9_wins_16 : decode cX9_wins 16 = .ok (.ifCond .eq 7, 3) := by decide +kernel
theorem dX9_wins_19 : decode cX9_wins 19 = .ok (.iconst 0, 1) := by decide +kernel
theorem dX9_wins_20 : decode cX9_wins 20 = .ok (.goto 4, 3) := by decide +kernel
theorem dX9_wins_23 : decode cX9_wins 23 = .ok (.iconst 1, 1) := by decide +kernel
theorem dX9_wins_24 : decode cX9_wins 24 = .ok (.iaload, 1) := by decide +kernel
theorem dX9_wins_25 : decode cX9_wins 25 = .ok (.istore_n 2, 1) := by decide +kernel
theorem dX9_wins_26 : decode cX9_wins 26 = .ok (.iconst 2, 1) := by decide +kernel
theorem dX9_wins_27 : decode cX9_wins 27 = .ok (.istore_n 3, 1) := by decide +kernel
theorem dX9_wins_28 : decode cX9_wins 28 = .ok (.iload_n 3, 1) := by decide +kernel
theorem dX9_wins_29 : decode cX9_wins 29 = .ok (.aload_n 0, 1) := by decide +kernel
theorem dX9_wins_30 : decode cX9_wins 30 = .ok (.getfield 216, 3) := by decide +kernel
theorem dX9_wins_33 : decode cX9_wins 33 = .ok (.if_icmp .ge 23, 3) := by decide +kernel
theorem dX9_wins_36 : decode cX9_wins 36 = .ok (.aload_n 0, 1) := by decide +kernel
theorem dX9_wins_37 : decode cX9_wins 37 = .ok (.getfield 109, 3) := by decide +kernel
theorem dX9_wins_40 : decode cX9_wins 40 = .ok (.iload_n 3, 1) := by decide +kernel
theorem dX9_wins_41 : decode cX9_wins 41 = .ok (.iconst 2, 1) := by decide +kernel
theorem dX9_wins_42 : decode cX9_wins 42 = .ok (.isub, 1) := by decide +kernel
theorem dX9_wins_43 : decode cX9_wins 43 = .ok (.aload_n 0, 1) := by decide +kernel
theorem dX9_wins_44 : decode cX9_wins 44 = .ok (.getfield 109, 3) := by decide +kernel
theorem dX9_wins_47 : decode cX9_wins 47 = .ok (.iload_n 3, 1) := by decide +kernel
theorem dX9_wins_48 : decode cX9_wins 48 = .ok (.iaload, 1) := by decide +kernel
theorem dX9_wins_49 : decode cX9_wins 49 = .ok (.iastore, 1) := by decide +kernel
theorem dX9_wins_50 : decode cX9_wins 50 = .ok (.iinc 3 1, 3) := by decide +kernel
theorem dX9_wins_53 : decode cX9_wins 53 = .ok (.goto (-25), 3) := by decide +kernel
theorem dX9_wins_56 : decode cX9_wins 56 = .ok (.aload_n 0, 1) := by decide +kernel
theorem dX9_wins_57 : decode cX9_wins 57 = .ok (.getfield 109, 3) := by decide +kernel
theorem dX9_wins_60 : decode cX9_wins 60 = .ok (.aload_n 0, 1) := by decide +kernel
theorem dX9_wins_61 : decode cX9_wins 61 = .ok (.getfield 216, 3) := by decide +kernel
theorem dX9_wins_64 : decode cX9_wins 64 = .ok (.iconst 2, 1) := by decide +kernel
theorem dX9_wins_65 : decode cX9_wins 65 = .ok (.isub, 1) := by decide +kernel
theorem dX9_wins_66 : decode cX9_wins 66 = .ok (.iload_n 2, 1) := by decide +kernel
theorem dX9_wins_67 : decode cX9_wins 67 = .ok (.iastore, 1) := by decide +kernel
theorem dX9_wins_68 : decode cX9_wins 68 = .ok (.aload_n 0, 1) := by decide +kernel
theorem dX9_wins_69 : decode cX9_wins 69 = .ok (.dup, 1) := by decide +kernel
theorem dX9_wins_70 : decode cX9_wins 70 = .ok (.getfield 216, 3) := by decide +kernel
theorem dX9_wins_73 : decode cX9_wins 73 = .ok (.iconst 1, 1) := by decide +kernel
theorem dX9_wins_74 : decode cX9_wins 74 = .ok (.isub, 1) := by decide +kernel
theorem dX9_wins_75 : decode cX9_wins 75 = .ok (.putfield 216, 3) := by decide +kernel
theorem dX9_wins_78 : decode cX9_wins 78 = .ok (.aload_n 0, 1) := by decide +kernel
theorem dX9_wins_79 : decode cX9_wins 79 = .ok (.invokevirtual 233, 3) := by decide +kernel
theorem dX9_wins_82 : decode cX9_wins 82 = .ok (.ireturn, 1) := by decide +kernel
theorem dX9_champion_0 : decode cX9_champion 0 = .ok (.aload_n 0, 1) := by decide +kernel
theorem dX9_champion_1 : decode cX9_champion 1 = .ok (.getfield 116, 3) := by decide +kernel
theorem dX9_champion_4 : decode cX9_champion 4 = .ok (.ireturn, 1) := by decide +kernel
theorem dX9_count_0 : decode cX9_count 0 = .ok (.iload_n 1, 1) := by decide +kernel
theorem dX9_count_1 : decode cX9_count 1 = .ok (.tableswitch 98 0 7 #[47, 52, 57, 62, 78, 83, 88, 93], 47) := by decide +kernel
theorem dX9_count_48 : decode cX9_count 48 = .ok (.aload_n 0, 1) := by decide +kernel
theorem dX9_count_49 : decode cX9_count 49 = .ok (.getfield 129, 3) := by decide +kernel
theorem dX9_count_52 : decode cX9_count 52 = .ok (.ireturn, 1) := by decide +kernel
theorem dX9_count_53 : decode cX9_count 53 = .ok (.aload_n 0, 1) := by decide +kernel
theorem dX9_count_54 : decode cX9_count 54 = .ok (.getfield 126, 3) := by decide +kernel
theorem dX9_count_57 : decode cX9_count 57 = .ok (.ireturn, 1) := by decide +kernel
theorem dX9_count_58 : decode cX9_count 58 = .ok (.aload_n 0, 1) := by decide +kernel
theorem dX9_count_59 : decode cX9_count 59 = .ok (.getfield 167, 3) := by decide +kernel
theorem dX9_count_62 : decode cX9_count 62 = .ok (.ireturn, 1) := by decide +kernel
theorem dX9_count_63 : decode cX9_count 63 = .ok (.aload_n 0, 1) := by decide +kernel
theorem dX9_count_64 : decode cX9_count 64 = .ok (.getfield 132, 3) := by decide +kernel
theorem dX9_count_67 : decode cX9_count 67 = .ok (.ifCond .eq 10, 3) := by decide +kernel
theorem dX9_count_70 : decode cX9_count 70 = .ok (.aload_n 0, 1) := by decide +kernel
theorem dX9_count_71 : decode cX9_count 71 = .ok (.getfield 164, 3) := by decide +kernel
theorem dX9_count_74 : decode cX9_count 74 = .ok (.goto 4, 3) := by decide +kernel
theorem dX9_count_77 : decode cX9_count 77 = .ok (.iconst 0, 1) := by decide +kernel
theorem dX9_count_78 : decode cX9_count 78 = .ok (.ireturn, 1) := by decide +kernel
theorem dX9_count_79 : decode cX9_count 79 = .ok (.aload_n 0, 1) := by decide +kernel
theorem dX9_count_80 : decode cX9_count 80 = .ok (.getfield 170, 3) := by decide +kernel
theorem dX9_count_83 : decode cX9_count 83 = .ok (.ireturn, 1) := by decide +kernel
theorem dX9_count_84 : decode cX9_count 84 = .ok (.aload_n 0, 1) := by decide +kernel
theorem dX9_count_85 : decode cX9_count 85 = .ok (.getfield 173, 3) := by decide +kernel
theorem dX9_count_88 : decode cX9_count 88 = .ok (.ireturn, 1) := by decide +kernel
theorem dX9_count_89 : decode cX9_count 89 = .ok (.aload_n 0, 1) := by decide +kernel
theorem dX9_count_90 : decode cX9_count 90 = .ok (.getfield 207, 3) := by decide +kernel
theorem dX9_count_93 : decode cX9_count 93 = .ok (.ireturn, 1) := by decide +kernel
theorem dX9_count_94 : decode cX9_count 94 = .ok (.aload_n 0, 1) := by decide +kernel
theorem dX9_count_95 : decode cX9_count 95 = .ok (.getfield 226, 3) := by decide +kernel
theorem dX9_count_98 : decode cX9_count 98 = .ok (.ireturn, 1) := by decide +kernel
theorem dX9_count_99 : decode cX9_count 99 = .ok (.iconst (-1), 1) := by decide +kernel
theorem dX9_count_100 : decode cX9_count 100 = .ok (.ireturn, 1) := by decide +kernel
theorem dX9_digest_0 : decode cX9_digest 0 = .ok (.ldc2_w 236, 3) := by decide +kernel
theorem dX9_digest_3 : decode cX9_digest 3 = .ok (.lstore_n 1, 1) := by decide +kernel
theorem dX9_digest_4 : decode cX9_digest 4 = .ok (.iconst 0, 1) := by decide +kernel
theorem dX9_digest_5 : decode cX9_digest 5 = .ok (.istore_n 3, 1) := by decide +kernel
theorem dX9_digest_6 : decode cX9_digest 6 = .ok (.iload_n 3, 1) := by decide +kernel
theorem dX9_digest_7 : decode cX9_digest 7 = .ok (.aload_n 0, 1) := by decide +kernel
theorem dX9_digest_8 : decode cX9_digest 8 = .ok (.getfield 129, 3) := by decide +kernel
theorem dX9_digest_11 : decode cX9_digest 11 = .ok (.if_icmp .ge 70, 3) := by decide +kernel
theorem dX9_digest_14 : decode cX9_digest 14 = .ok (.iconst 0, 1) := by decide +kernel
theorem dX9_digest_15 : decode cX9_digest 15 = .ok (.istore 4, 2) := by decide +kernel
theorem dX9_digest_17 : decode cX9_digest 17 = .ok (.iload 4, 2) := by decide +kernel
theorem dX9_digest_19 : decode cX9_digest 19 = .ok (.bipush 7, 2) := by decide +kernel
theorem dX9_digest_21 : decode cX9_digest 21 = .ok (.if_icmp .ge 33, 3) := by decide +kernel
theorem dX9_digest_24 : decode cX9_digest 24 = .ok (.aload_n 0, 1) := by decide +kernel
theorem dX9_digest_25 : decode cX9_digest 25 = .ok (.getfield 22, 3) := by decide +kernel
theorem dX9_digest_28 : decode cX9_digest 28 = .ok (.iload_n 3, 1) := by decide +kernel
theorem dX9_digest_29 : decode cX9_digest 29 = .ok (.baload, 1) := by decide +kernel
theorem dX9_digest_30 : decode cX9_digest 30 = .ok (.ifCond .ne 24, 3) := by decide +kernel
theorem dX9_digest_33 : decode cX9_digest 33 = .ok (.ldc2_w 238, 3) := by decide +kernel
theorem dX9_digest_36 : decode cX9_digest 36 = .ok (.lload_n 1, 1) := by decide +kernel
theorem dX9_digest_37 : decode cX9_digest 37 = .ok (.lmul, 1) := by decide +kernel
theorem dX9_digest_38 : decode cX9_digest 38 = .ok (.aload_n 0, 1) := by decide +kernel
theorem dX9_digest_39 : decode cX9_digest 39 = .ok (.iload_n 3, 1) := by decide +kernel
theorem dX9_digest_40 : decode cX9_digest 40 = .ok (.iload 4, 2) := by decide +kernel
theorem dX9_digest_42 : decode cX9_digest 42 = .ok (.invokevirtual 154, 3) := by decide +kernel
theorem dX9_digest_45 : decode cX9_digest 45 = .ok (.i2l, 1) := by decide +kernel
theorem dX9_digest_46 : decode cX9_digest 46 = .ok (.ladd, 1) := by decide +kernel
theorem dX9_digest_47 : decode cX9_digest 47 = .ok (.lstore_n 1, 1) := by decide +kernel
theorem dX9_digest_48 : decode cX9_digest 48 = .ok (.iinc 4 1, 3) := by decide +kernel
theorem dX9_digest_51 : decode cX9_digest 51 = .ok (.goto (-34), 3) := by decide +kernel
theorem dX9_digest_54 : decode cX9_digest 54 = .ok (.aload_n 0, 1) := by decide +kernel
theorem dX9_digest_55 : decode cX9_digest 55 = .ok (.getfield 22, 3) := by decide +kernel
theorem dX9_digest_58 : decode cX9_digest 58 = .ok (.iload_n 3, 1) := by decide +kernel
theorem dX9_digest_59 : decode cX9_digest 59 = .ok (.baload, 1) := by decide +kernel
theorem dX9_digest_60 : decode cX9_digest 60 = .ok (.ifCond .eq 13, 3) := by decide +kernel
theorem dX9_digest_63 : decode cX9_digest 63 = .ok (.ldc2_w 238, 3) := by decide +kernel
theorem dX9_digest_66 : decode cX9_digest 66 = .ok (.lload_n 1, 1) := by decide +kernel
theorem dX9_digest_67 : decode cX9_digest 67 = .ok (.lmul, 1) := by decide +kernel
theorem dX9_digest_68 : decode cX9_digest 68 = .ok (.lconst 1, 1) := by decide +kernel
theorem dX9_digest_69 : decode cX9_digest 69 = .ok (.lsub, 1) := by decide +kernel
theorem dX9_digest_70 : decode cX9_digest 70 = .ok (.goto 4, 3) := by decide +kernel
theorem dX9_digest_73 : decode cX9_digest 73 = .ok (.lload_n 1, 1) := by decide +kernel
theorem dX9_digest_74 : decode cX9_digest 74 = .ok (.lstore_n 1, 1) := by decide +kernel
theorem dX9_digest_75 : decode cX9_digest 75 = .ok (.iinc 3 1, 3) := by decide +kernel
theorem dX9_digest_78 : decode cX9_digest 78 = .ok (.goto (-72), 3) := by decide +kernel
theorem dX9_digest_81 : decode cX9_digest 81 = .ok (.iconst 0, 1) := by decide +kernel
theorem dX9_digest_82 : decode cX9_digest 82 = .ok (.istore_n 3, 1) := by decide +kernel
theorem dX9_digest_83 : decode cX9_digest 83 = .ok (.iload_n 3, 1) := by decide +kernel
theorem dX9_digest_84 : decode cX9_digest 84 = .ok (.aload_n 0, 1) := by decide +kernel
theorem dX9_digest_85 : decode cX9_digest 85 = .ok (.getfield 126, 3) := by decide +kernel
theorem dX9_digest_88 : decode cX9_digest 88 = .ok (.if_icmp .ge 23, 3) := by decide +kernel
theorem dX9_digest_91 : decode cX9_digest 91 = .ok (.ldc2_w 238, 3) := by decide +kernel
theorem dX9_digest_94 : decode cX9_digest 94 = .ok (.lload_n 1, 1) := by decide +kernel
theorem dX9_digest_95 : decode cX9_digest 95 = .ok (.lmul, 1) := by decide +kernel
theorem dX9_digest_96 : decode cX9_digest 96 = .ok (.aload_n 0, 1) := by decide +kernel
theorem dX9_digest_97 : decode cX9_digest 97 = .ok (.getfield 41, 3) := by decide +kernel
theorem dX9_digest_100 : decode cX9_digest 100 = .ok (.iload_n 3, 1) := by decide +kernel
theorem dX9_digest_101 : decode cX9_digest 101 = .ok (.iaload, 1) := by decide +kernel
theorem dX9_digest_102 : decode cX9_digest 102 = .ok (.i2l, 1) := by decide +kernel
theorem dX9_digest_103 : decode cX9_digest 103 = .ok (.ladd, 1) := by decide +kernel
theorem dX9_digest_104 : decode cX9_digest 104 = .ok (.lstore_n 1, 1) := by decide +kernel
theorem dX9_digest_105 : decode cX9_digest 105 = .ok (.iinc 3 1, 3) := by decide +kernel
theorem dX9_digest_108 : decode cX9_digest 108 = .ok (.goto (-25), 3) := by decide +kernel
theorem dX9_digest_111 : decode cX9_digest 111 = .ok (.iconst 0, 1) := by decide +kernel
theorem dX9_digest_112 : decode cX9_digest 112 = .ok (.istore_n 3, 1) := by decide +kernel
theorem dX9_digest_113 : decode cX9_digest 113 = .ok (.iload_n 3, 1) := by decide +kernel
theorem dX9_digest_114 : decode cX9_digest 114 = .ok (.aload_n 0, 1) := by decide +kernel
theorem dX9_digest_115 : decode cX9_digest 115 = .ok (.getfield 170, 3) := by decide +kernel
theorem dX9_digest_118 : decode cX9_digest 118 = .ok (.if_icmp .ge 39, 3) := by decide +kernel
theorem dX9_digest_121 : decode cX9_digest 121 = .ok (.iconst 0, 1) := by decide +kernel
theorem dX9_digest_122 : decode cX9_digest 122 = .ok (.istore 4, 2) := by decide +kernel
theorem dX9_digest_124 : decode cX9_digest 124 = .ok (.iload 4, 2) := by decide +kernel
theorem dX9_digest_126 : decode cX9_digest 126 = .ok (.iconst 4, 1) := by decide +kernel
theorem dX9_digest_127 : decode cX9_digest 127 = .ok (.if_icmp .ge 24, 3) := by decide +kernel
theorem dX9_digest_130 : decode cX9_digest 130 = .ok (.ldc2_w 238, 3) := by decide +kernel
theorem dX9_digest_133 : decode cX9_digest 133 = .ok (.lload_n 1, 1) := by decide +kernel
theorem dX9_digest_134 : decode cX9_digest 134 = .ok (.lmul, 1) := by decide +kernel
theorem dX9_digest_135 : decode cX9_digest 135 = .ok (.aload_n 0, 1) := by decide +kernel
theorem dX9_digest_136 : decode cX9_digest 136 = .ok (.iload_n 3, 1) := by decide +kernel
theorem dX9_digest_137 : decode cX9_digest 137 = .ok (.iload 4, 2) := by decide +kernel
theorem dX9_digest_139 : decode cX9_digest 139 = .ok (.invokevirtual 204, 3) := by decide +kernel
theorem dX9_digest_142 : decode cX9_digest 142 = .ok (.i2l, 1) := by decide +kernel
theorem dX9_digest_143 : decode cX9_digest 143 = .ok (.ladd, 1) := by decide +kernel
theorem dX9_digest_144 : decode cX9_digest 144 = .ok (.lstore_n 1, 1) := by decide +kernel
theorem dX9_digest_145 : decode cX9_digest 145 = .ok (.iinc 4 1, 3) := by decide +kernel
theorem dX9_digest_148 : decode cX9_digest 148 = .ok (.goto (-24), 3) := by decide +kernel
theorem dX9_digest_151 : decode cX9_digest 151 = .ok (.iinc 3 1, 3) := by decide +kernel
theorem dX9_digest_154 : decode cX9_digest 154 = .ok (.goto (-41), 3) := by decide +kernel
theorem dX9_digest_157 : decode cX9_digest 157 = .ok (.iconst 2, 1) := by decide +kernel
theorem dX9_digest_158 : decode cX9_digest 158 = .ok (.istore_n 3, 1) := by decide +kernel
theorem dX9_digest_159 : decode cX9_digest 159 = .ok (.iload_n 3, 1) := by decide +kernel
theorem dX9_digest_160 : decode cX9_digest 160 = .ok (.bipush 8, 2) := by decide +kernel
theorem dX9_digest_162 : decode cX9_digest 162 = .ok (.if_icmp .ge 22, 3) := by decide +kernel
theorem dX9_digest_165 : decode cX9_digest 165 = .ok (.ldc2_w 238, 3) := by decide +kernel
theorem dX9_digest_168 : decode cX9_digest 168 = .ok (.lload_n 1, 1) := by decide +kernel
theorem dX9_digest_169 : decode cX9_digest 169 = .ok (.lmul, 1) := by decide +kernel
theorem dX9_digest_170 : decode cX9_digest 170 = .ok (.aload_n 0, 1) := by decide +kernel
theorem dX9_digest_171 : decode cX9_digest 171 = .ok (.iload_n 3, 1) := by decide +kernel
theorem dX9_digest_172 : decode cX9_digest 172 = .ok (.invokevirtual 240, 3) := by decide +kernel
theorem dX9_digest_175 : decode cX9_digest 175 = .ok (.i2l, 1) := by decide +kernel
theorem dX9_digest_176 : decode cX9_digest 176 = .ok (.ladd, 1) := by decide +kernel
theorem dX9_digest_177 : decode cX9_digest 177 = .ok (.lstore_n 1, 1) := by decide +kernel
theorem dX9_digest_178 : decode cX9_digest 178 = .ok (.iinc 3 1, 3) := by decide +kernel
theorem dX9_digest_181 : decode cX9_digest 181 = .ok (.goto (-22), 3) := by decide +kernel
theorem dX9_digest_184 : decode cX9_digest 184 = .ok (.ldc2_w 238, 3) := by decide +kernel
theorem dX9_digest_187 : decode cX9_digest 187 = .ok (.lload_n 1, 1) := by decide +kernel
theorem dX9_digest_188 : decode cX9_digest 188 = .ok (.lmul, 1) := by decide +kernel
theorem dX9_digest_189 : decode cX9_digest 189 = .ok (.aload_n 0, 1) := by decide +kernel
theorem dX9_digest_190 : decode cX9_digest 190 = .ok (.getfield 116, 3) := by decide +kernel
theorem dX9_digest_193 : decode cX9_digest 193 = .ok (.i2l, 1) := by decide +kernel
theorem dX9_digest_194 : decode cX9_digest 194 = .ok (.ladd, 1) := by decide +kernel
theorem dX9_digest_195 : decode cX9_digest 195 = .ok (.lstore_n 1, 1) := by decide +kernel
theorem dX9_digest_196 : decode cX9_digest 196 = .ok (.iconst 0, 1) := by decide +kernel
theorem dX9_digest_197 : decode cX9_digest 197 = .ok (.istore_n 3, 1) := by decide +kernel
theorem dX9_digest_198 : decode cX9_digest 198 = .ok (.iload_n 3, 1) := by decide +kernel
theorem dX9_digest_199 : decode cX9_digest 199 = .ok (.iconst 4, 1) := by decide +kernel
theorem dX9_digest_200 : decode cX9_digest 200 = .ok (.if_icmp .ge 63, 3) := by decide +kernel
theorem dX9_digest_203 : decode cX9_digest 203 = .ok (.ldc2_w 238, 3) := by decide +kernel
theorem dX9_digest_206 : decode cX9_digest 206 = .ok (.lload_n 1, 1) := by decide +kernel
theorem dX9_digest_207 : decode cX9_digest 207 = .ok (.lmul, 1) := by decide +kernel
theorem dX9_digest_208 : decode cX9_digest 208 = .ok (.aload_n 0, 1) := by decide +kernel
theorem dX9_digest_209 : decode cX9_digest 209 = .ok (.getfield 44, 3) := by decide +kernel
theorem dX9_digest_212 : decode cX9_digest 212 = .ok (.iload_n 3, 1) := by decide +kernel
theorem dX9_digest_213 : decode cX9_digest 213 = .ok (.iaload, 1) := by decide +kernel
theorem dX9_digest_214 : decode cX9_digest 214 = .ok (.i2l, 1) := by decide +kernel
theorem dX9_digest_215 : decode cX9_digest 215 = .ok (.ladd, 1) := by decide +kernel
theorem dX9_digest_216 : decode cX9_digest 216 = .ok (.lstore_n 1, 1) := by decide +kernel
theorem dX9_digest_217 : decode cX9_digest 217 = .ok (.iconst 0, 1) := by decide +kernel
theorem dX9_digest_218 : decode cX9_digest 218 = .ok (.istore 4, 2) := by decide +kernel
theorem dX9_digest_220 : decode cX9_digest 220 = .ok (.iload 4, 2) := by decide +kernel
theorem dX9_digest_222 : decode cX9_digest 222 = .ok (.aload_n 0, 1) := by decide +kernel
theorem dX9_digest_223 : decode cX9_digest 223 = .ok (.getfield 44, 3) := by decide +kernel
theorem dX9_digest_226 : decode cX9_digest 226 = .ok (.iload_n 3, 1) := by decide +kernel
theorem dX9_digest_227 : decode cX9_digest 227 = .ok (.iaload, 1) := by decide +kernel
theorem dX9_digest_228 : decode cX9_digest 228 = .ok (.if_icmp .ge 29, 3) := by decide +kernel
theorem dX9_digest_231 : decode cX9_digest 231 = .ok (.ldc2_w 238, 3) := by decide +kernel
theorem dX9_digest_234 : decode cX9_digest 234 = .ok (.lload_n 1, 1) := by decide +kernel
theorem dX9_digest_235 : decode cX9_digest 235 = .ok (.lmul, 1) := by decide +kernel
theorem dX9_digest_236 : decode cX9_digest 236 = .ok (.aload_n 0, 1) := by decide +kernel
theorem dX9_digest_237 : decode cX9_digest 237 = .ok (.getfield 47, 3) := by decide +kernel
theorem dX9_digest_240 : decode cX9_digest 240 = .ok (.bipush 16, 2) := by decide +kernel
theorem dX9_digest_242 : decode cX9_digest 242 = .ok (.iload_n 3, 1) := by decide +kernel
theorem dX9_digest_243 : decode cX9_digest 243 = .ok (.imul, 1) := by decide +kernel
theorem dX9_digest_244 : decode cX9_digest 244 = .ok (.iload 4, 2) := by decide +kernel
theorem dX9_digest_246 : decode cX9_digest 246 = .ok (.iadd, 1) := by decide +kernel
theorem dX9_digest_247 : decode cX9_digest 247 = .ok (.baload, 1) := by decide +kernel
theorem dX9_digest_248 : decode cX9_digest 248 = .ok (.i2l, 1) := by decide +kernel
theorem dX9_digest_249 : decode cX9_digest 249 = .ok (.ladd, 1) := by decide +kernel
theorem dX9_digest_250 : decode cX9_digest 250 = .ok (.lstore_n 1, 1) := by decide +kernel
theorem dX9_digest_251 : decode cX9_digest 251 = .ok (.iinc 4 1, 3) := by decide +kernel
theorem dX9_digest_254 : decode cX9_digest 254 = .ok (.goto (-34), 3) := by decide +kernel
theorem dX9_digest_257 : decode cX9_digest 257 = .ok (.iinc 3 1, 3) := by decide +kernel
theorem dX9_digest_260 : decode cX9_digest 260 = .ok (.goto (-62), 3) := by decide +kernel
theorem dX9_digest_263 : decode cX9_digest 263 = .ok (.lload_n 1, 1) := by decide +kernel
theorem dX9_digest_264 : decode cX9_digest 264 = .ok (.lreturn, 1) := by decide +kernel
theorem dJ9_abs_0f7a4_0 : decode cJ9_abs_0f7a4 0 = .ok (.iload_n 0, 1) := by decide +kernel
theorem dJ9_abs_0f7a4_1 : decode cJ9_abs_0f7a4 1 = .ok (.ifCond .ge 8, 3) := by decide +kernel
theorem dJ9_abs_0f7a4_4 : decode cJ9_abs_0f7a4 4 = .ok (.iload_n 0, 1) := by decide +kernel
theorem dJ9_abs_0f7a4_5 : decode cJ9_abs_0f7a4 5 = .ok (.ineg, 1) := by decide +kernel
theorem dJ9_abs_0f7a4_6 : decode cJ9_abs_0f7a4 6 = .ok (.goto 4, 3) := by decide +kernel
theorem dJ9_abs_0f7a4_9 : decode cJ9_abs_0f7a4 9 = .ok (.iload_n 0, 1) := by decide +kernel
theorem dJ9_abs_0f7a4_10 : decode cJ9_abs_0f7a4 10 = .ok (.ireturn, 1) := by decide +kernel
theorem dJ9_max_7cf53_0 : decode cJ9_max_7cf53 0 = .ok (.iload_n 0, 1) := by decide +kernel
theorem dJ9_max_7cf53_1 : decode cJ9_max_7cf53 1 = .ok (.iload_n 1, 1) := by decide +kernel
theorem dJ9_max_7cf53_2 : decode cJ9_max_7cf53 2 = .ok (.if_icmp .lt 7, 3) := by decide +kernel
theorem dJ9_max_7cf53_5 : decode cJ9_max_7cf53 5 = .ok (.iload_n 0, 1) := by decide +kernel
theorem dJ9_max_7cf53_6 : decode cJ9_max_7cf53 6 = .ok (.goto 4, 3) := by decide +kernel
theorem dJ9_max_7cf53_9 : decode cJ9_max_7cf53 9 = .ok (.iload_n 1, 1) := by decide +kernel
theorem dJ9_max_7cf53_10 : decode cJ9_max_7cf53 10 = .ok (.ireturn, 1) := by decide +kernel
theorem dJ9_min_7cf53_0 : decode cJ9_min_7cf53 0 = .ok (.iload_n 0, 1) := by decide +kernel
theorem dJ9_min_7cf53_1 : decode cJ9_min_7cf53 1 = .ok (.iload_n 1, 1) := by decide +kernel
theorem dJ9_min_7cf53_2 : decode cJ9_min_7cf53 2 = .ok (.if_icmp .gt 7, 3) := by decide +kernel
theorem dJ9_min_7cf53_5 : decode cJ9_min_7cf53 5 = .ok (.iload_n 0, 1) := by decide +kernel
theorem dJ9_min_7cf53_6 : decode cJ9_min_7cf53 6 = .ok (.goto 4, 3) := by decide +kernel
theorem dJ9_min_7cf53_9 : decode cJ9_min_7cf53 9 = .ok (.iload_n 1, 1) := by decide +kernel
theorem dJ9_min_7cf53_10 : decode cJ9_min_7cf53 10 = .ok (.ireturn, 1) := by decide +kernel
theorem dJ7_rangeCheck_23922_0 : decode cJ7_rangeCheck_23922 0 = .ok (.iload_n 1, 1) := by decide +kernel
theorem dJ7_rangeCheck_23922_1 : decode cJ7_rangeCheck_23922 1 = .ok (.iload_n 2, 1) := by decide +kernel
theorem dJ7_rangeCheck_23922_2 : decode cJ7_rangeCheck_23922 2 = .ok (.if_icmp .le 44, 3) := by decide +kernel
theorem dJ7_rangeCheck_23922_5 : decode cJ7_rangeCheck_23922 5 = .ok (.new 43, 3) := by decide +kernel
theorem dJ7_rangeCheck_23922_8 : decode cJ7_rangeCheck_23922 8 = .ok (.dup, 1) := by decide +kernel
theorem dJ7_rangeCheck_23922_9 : decode cJ7_rangeCheck_23922 9 = .ok (.new 45, 3) := by decide +kernel
theorem dJ7_rangeCheck_23922_12 : decode cJ7_rangeCheck_23922 12 = .ok (.dup, 1) := by decide +kernel
theorem dJ7_rangeCheck_23922_13 : decode cJ7_rangeCheck_23922 13 = .ok (.invokespecial 47, 3) := by decide +kernel
theorem dJ7_rangeCheck_23922_16 : decode cJ7_rangeCheck_23922 16 = .ok (.ldc 48, 2) := by decide +kernel
theorem dJ7_rangeCheck_23922_18 : decode cJ7_rangeCheck_23922 18 = .ok (.invokevirtual 50, 3) := by decide +kernel
theorem dJ7_rangeCheck_23922_21 : decode cJ7_rangeCheck_23922 21 = .ok (.iload_n 1, 1) := by decide +kernel
theorem dJ7_rangeCheck_23922_22 : decode cJ7_rangeCheck_23922 22 = .ok (.invokevirtual 54, 3) := by decide +kernel
theorem dJ7_rangeCheck_23922_25 : decode cJ7_rangeCheck_23922 25 = .ok (.ldc 57, 2) := by decide +kernel
theorem dJ7_rangeCheck_23922_27 : decode cJ7_rangeCheck_23922 27 = .ok (.invokevirtual 50, 3) := by decide +kernel
theorem dJ7_rangeCheck_23922_30 : decode cJ7_rangeCheck_23922 30 = .ok (.iload_n 2, 1) := by decide +kernel
theorem dJ7_rangeCheck_23922_31 : decode cJ7_rangeCheck_23922 31 = .ok (.invokevirtual 54, 3) := by decide +kernel
theorem dJ7_rangeCheck_23922_34 : decode cJ7_rangeCheck_23922 34 = .ok (.ldc 59, 2) := by decide +kernel
theorem dJ7_rangeCheck_23922_36 : decode cJ7_rangeCheck_23922 36 = .ok (.invokevirtual 50, 3) := by decide +kernel
theorem dJ7_rangeCheck_23922_39 : decode cJ7_rangeCheck_23922 39 = .ok (.invokevirtual 61, 3) := by decide +kernel
theorem dJ7_rangeCheck_23922_42 : decode cJ7_rangeCheck_23922 42 = .ok (.invokespecial 65, 3) := by decide +kernel
theorem dJ7_rangeCheck_23922_45 : decode cJ7_rangeCheck_23922 45 = .ok (.athrow, 1) := by decide +kernel
theorem dJ7_rangeCheck_23922_46 : decode cJ7_rangeCheck_23922 46 = .ok (.iload_n 1, 1) := by decide +kernel
theorem dJ7_rangeCheck_23922_47 : decode cJ7_rangeCheck_23922 47 = .ok (.ifCond .ge 12, 3) := by decide +kernel
theorem dJ7_rangeCheck_23922_50 : decode cJ7_rangeCheck_23922 50 = .ok (.new 68, 3) := by decide +kernel
theorem dJ7_rangeCheck_23922_53 : decode cJ7_rangeCheck_23922 53 = .ok (.dup, 1) := by decide +kernel
theorem dJ7_rangeCheck_23922_54 : decode cJ7_rangeCheck_23922 54 = .ok (.iload_n 1, 1) := by decide +kernel
theorem dJ7_rangeCheck_23922_55 : decode cJ7_rangeCheck_23922 55 = .ok (.invokespecial 70, 3) := by decide +kernel
theorem dJ7_rangeCheck_23922_58 : decode cJ7_rangeCheck_23922 58 = .ok (.athrow, 1) := by decide +kernel
theorem dJ7_rangeCheck_23922_59 : decode cJ7_rangeCheck_23922 59 = .ok (.iload_n 2, 1) := by decide +kernel
theorem dJ7_rangeCheck_23922_60 : decode cJ7_rangeCheck_23922 60 = .ok (.iload_n 0, 1) := by decide +kernel
theorem dJ7_rangeCheck_23922_61 : decode cJ7_rangeCheck_23922 61 = .ok (.if_icmp .le 12, 3) := by decide +kernel
theorem dJ7_rangeCheck_23922_64 : decode cJ7_rangeCheck_23922 64 = .ok (.new 68, 3) := by decide +kernel
theorem dJ7_rangeCheck_23922_67 : decode cJ7_rangeCheck_23922 67 = .ok (.dup, 1) := by decide +kernel
theorem dJ7_rangeCheck_23922_68 : decode cJ7_rangeCheck_23922 68 = .ok (.iload_n 2, 1) := by decide +kernel
theorem dJ7_rangeCheck_23922_69 : decode cJ7_rangeCheck_23922 69 = .ok (.invokespecial 70, 3) := by decide +kernel
theorem dJ7_rangeCheck_23922_72 : decode cJ7_rangeCheck_23922 72 = .ok (.athrow, 1) := by decide +kernel
theorem dJ7_rangeCheck_23922_73 : decode cJ7_rangeCheck_23922 73 = .ok (.return_, 1) := by decide +kernel
theorem dJ7_fill_53178_0 : decode cJ7_fill_53178 0 = .ok (.iconst 0, 1) := by decide +kernel
theorem dJ7_fill_53178_1 : decode cJ7_fill_53178 1 = .ok (.istore_n 2, 1) := by decide +kernel
theorem dJ7_fill_53178_2 : decode cJ7_fill_53178 2 = .ok (.aload_n 0, 1) := by decide +kernel
theorem dJ7_fill_53178_3 : decode cJ7_fill_53178 3 = .ok (.arraylength, 1) := by decide +kernel
theorem dJ7_fill_53178_4 : decode cJ7_fill_53178 4 = .ok (.istore_n 3, 1) := by decide +kernel
theorem dJ7_fill_53178_5 : decode cJ7_fill_53178 5 = .ok (.iload_n 2, 1) := by decide +kernel
theorem dJ7_fill_53178_6 : decode cJ7_fill_53178 6 = .ok (.iload_n 3, 1) := by decide +kernel
theorem dJ7_fill_53178_7 : decode cJ7_fill_53178 7 = .ok (.if_icmp .ge 13, 3) := by decide +kernel
theorem dJ7_fill_53178_10 : decode cJ7_fill_53178 10 = .ok (.aload_n 0, 1) := by decide +kernel
theorem dJ7_fill_53178_11 : decode cJ7_fill_53178 11 = .ok (.iload_n 2, 1) := by decide +kernel
theorem dJ7_fill_53178_12 : decode cJ7_fill_53178 12 = .ok (.iload_n 1, 1) := by decide +kernel
theorem dJ7_fill_53178_13 : decode cJ7_fill_53178 13 = .ok (.iastore, 1) := by decide +kernel
theorem dJ7_fill_53178_14 : decode cJ7_fill_53178 14 = .ok (.iinc 2 1, 3) := by decide +kernel
theorem dJ7_fill_53178_17 : decode cJ7_fill_53178 17 = .ok (.goto (-12), 3) := by decide +kernel
theorem dJ7_fill_53178_20 : decode cJ7_fill_53178 20 = .ok (.return_, 1) := by decide +kernel
theorem dJ7_fill_fda19_0 : decode cJ7_fill_fda19 0 = .ok (.aload_n 0, 1) := by decide +kernel
theorem dJ7_fill_fda19_1 : decode cJ7_fill_fda19 1 = .ok (.arraylength, 1) := by decide +kernel
theorem dJ7_fill_fda19_2 : decode cJ7_fill_fda19 2 = .ok (.iload_n 1, 1) := by decide +kernel
theorem dJ7_fill_fda19_3 : decode cJ7_fill_fda19 3 = .ok (.iload_n 2, 1) := by decide +kernel
theorem dJ7_fill_fda19_4 : decode cJ7_fill_fda19 4 = .ok (.invokestatic 13, 3) := by decide +kernel
theorem dJ7_fill_fda19_7 : decode cJ7_fill_fda19 7 = .ok (.iload_n 1, 1) := by decide +kernel
theorem dJ7_fill_fda19_8 : decode cJ7_fill_fda19 8 = .ok (.istore 4, 2) := by decide +kernel
theorem dJ7_fill_fda19_10 : decode cJ7_fill_fda19 10 = .ok (.iload 4, 2) := by decide +kernel
theorem dJ7_fill_fda19_12 : decode cJ7_fill_fda19 12 = .ok (.iload_n 2, 1) := by decide +kernel
theorem dJ7_fill_fda19_13 : decode cJ7_fill_fda19 13 = .ok (.if_icmp .ge 14, 3) := by decide +kernel
theorem dJ7_fill_fda19_16 : decode cJ7_fill_fda19 16 = .ok (.aload_n 0, 1) := by decide +kernel
theorem dJ7_fill_fda19_17 : decode cJ7_fill_fda19 17 = .ok (.iload 4, 2) := by decide +kernel
theorem dJ7_fill_fda19_19 : decode cJ7_fill_fda19 19 = .ok (.iload_n 3, 1) := by decide +kernel
theorem dJ7_fill_fda19_20 : decode cJ7_fill_fda19 20 = .ok (.iastore, 1) := by decide +kernel
theorem dJ7_fill_fda19_21 : decode cJ7_fill_fda19 21 = .ok (.iinc 4 1, 3) := by decide +kernel
theorem dJ7_fill_fda19_24 : decode cJ7_fill_fda19 24 = .ok (.goto (-14), 3) := by decide +kernel
theorem dJ7_fill_fda19_27 : decode cJ7_fill_fda19 27 = .ok (.return_, 1) := by decide +kernel
theorem dJ7_fill_031fb_0 : decode cJ7_fill_031fb 0 = .ok (.iconst 0, 1) := by decide +kernel
theorem dJ7_fill_031fb_1 : decode cJ7_fill_031fb 1 = .ok (.istore_n 2, 1) := by decide +kernel
theorem dJ7_fill_031fb_2 : decode cJ7_fill_031fb 2 = .ok (.aload_n 0, 1) := by decide +kernel
theorem dJ7_fill_031fb_3 : decode cJ7_fill_031fb 3 = .ok (.arraylength, 1) := by decide +kernel
theorem dJ7_fill_031fb_4 : decode cJ7_fill_031fb 4 = .ok (.istore_n 3, 1) := by decide +kernel
theorem dJ7_fill_031fb_5 : decode cJ7_fill_031fb 5 = .ok (.iload_n 2, 1) := by decide +kernel
theorem dJ7_fill_031fb_6 : decode cJ7_fill_031fb 6 = .ok (.iload_n 3, 1) := by decide +kernel
theorem dJ7_fill_031fb_7 : decode cJ7_fill_031fb 7 = .ok (.if_icmp .ge 13, 3) := by decide +kernel
theorem dJ7_fill_031fb_10 : decode cJ7_fill_031fb 10 = .ok (.aload_n 0, 1) := by decide +kernel
theorem dJ7_fill_031fb_11 : decode cJ7_fill_031fb 11 = .ok (.iload_n 2, 1) := by decide +kernel
theorem dJ7_fill_031fb_12 : decode cJ7_fill_031fb 12 = .ok (.iload_n 1, 1) := by decide +kernel
theorem dJ7_fill_031fb_13 : decode cJ7_fill_031fb 13 = .ok (.bastore, 1) := by decide +kernel
theorem dJ7_fill_031fb_14 : decode cJ7_fill_031fb 14 = .ok (.iinc 2 1, 3) := by decide +kernel
theorem dJ7_fill_031fb_17 : decode cJ7_fill_031fb 17 = .ok (.goto (-12), 3) := by decide +kernel
theorem dJ7_fill_031fb_20 : decode cJ7_fill_031fb 20 = .ok (.return_, 1) := by decide +kernel
theorem dL_law_0 : decode cL_law 0 = .ok (.new 7, 3) := by decide +kernel
theorem dL_law_3 : decode cL_law 3 = .ok (.dup, 1) := by decide +kernel
theorem dL_law_4 : decode cL_law 4 = .ok (.invokespecial 9, 3) := by decide +kernel
theorem dL_law_7 : decode cL_law 7 = .ok (.astore_n 1, 1) := by decide +kernel
theorem dL_law_8 : decode cL_law 8 = .ok (.new 10, 3) := by decide +kernel
theorem dL_law_11 : decode cL_law 11 = .ok (.dup, 1) := by decide +kernel
theorem dL_law_12 : decode cL_law 12 = .ok (.invokespecial 12, 3) := by decide +kernel
theorem dL_law_15 : decode cL_law 15 = .ok (.astore_n 2, 1) := by decide +kernel
theorem dL_law_16 : decode cL_law 16 = .ok (.iconst 0, 1) := by decide +kernel
theorem dL_law_17 : decode cL_law 17 = .ok (.istore_n 3, 1) := by decide +kernel
theorem dL_law_18 : decode cL_law 18 = .ok (.iload_n 3, 1) := by decide +kernel
theorem dL_law_19 : decode cL_law 19 = .ok (.aload_n 0, 1) := by decide +kernel
theorem dL_law_20 : decode cL_law 20 = .ok (.arraylength, 1) := by decide +kernel
theorem dL_law_21 : decode cL_law 21 = .ok (.bipush 6, 2) := by decide +kernel
theorem dL_law_23 : decode cL_law 23 = .ok (.isub, 1) := by decide +kernel
theorem dL_law_24 : decode cL_law 24 = .ok (.if_icmp .gt 1167, 3) := by decide +kernel
theorem dL_law_27 : decode cL_law 27 = .ok (.aload_n 0, 1) := by decide +kernel
theorem dL_law_28 : decode cL_law 28 = .ok (.iload_n 3, 1) := by decide +kernel
theorem dL_law_29 : decode cL_law 29 = .ok (.iaload, 1) := by decide +kernel
theorem dL_law_30 : decode cL_law 30 = .ok (.bipush 63, 2) := by decide +kernel
theorem dL_law_32 : decode cL_law 32 = .ok (.iand, 1) := by decide +kernel
theorem dL_law_33 : decode cL_law 33 = .ok (.tableswitch 1152 0 35 #[159, 202, 225, 258, 291, 314, 347, 370, 403, 446, 469, 532, 555, 578, 601, 650, 683, 696, 709, 758, 791, 804, 847, 860, 883, 916, 939, 962, 975, 988, 1027, 1066, 1079, 1102, 1115, 1138], 159) := by decide +kernel
theorem dL_law_192 : decode cL_law 192 = .ok (.aload_n 1, 1) := by decide +kernel
theorem dL_law_193 : decode cL_law 193 = .ok (.aload_n 0, 1) := by decide +kernel
theorem dL_law_194 : decode cL_law 194 = .ok (.iload_n 3, 1) := by decide +kernel
theorem dL_law_195 : decode cL_law 195 = .ok (.iconst 1, 1) := by decide +kernel
theorem dL_law_196 : decode cL_law 196 = .ok (.iadd, 1) := by decide +kernel
theorem dL_law_197 : decode cL_law 197 = .ok (.iaload, 1) := by decide +kernel
theorem dL_law_198 : decode cL_law 198 = .ok (.aload_n 0, 1) := by decide +kernel
theorem dL_law_199 : decode cL_law 199 = .ok (.iload_n 3, 1) := by decide +kernel
theorem dL_law_200 : decode cL_law 200 = .ok (.iconst 2, 1) := by decide +kernel
theorem dL_law_201 : decode cL_law 201 = .ok (.iadd, 1) := by decide +kernel
theorem dL_law_202 : decode cL_law 202 = .ok (.iaload, 1) := by decide +kernel
theorem dL_law_203 : decode cL_law 203 = .ok (.aload_n 0, 1) := by decide +kernel
theorem dL_law_204 : decode cL_law 204 = .ok (.iload_n 3, 1) := by decide +kernel
theorem dL_law_205 : decode cL_law 205 = .ok (.iconst 3, 1) := by decide +kernel
theorem dL_law_206 : decode cL_law 206 = .ok (.iadd, 1) := by decide +kernel
theorem dL_law_207 : decode cL_law 207 = .ok (.iaload, 1) := by decide +kernel
theorem dL_law_208 : decode cL_law 208 = .ok (.invokevirtual 13, 3) := by decide +kernel
theorem dL_law_211 : decode cL_law 211 = .ok (.aload_n 2, 1) := by decide +kernel
theorem dL_law_212 : decode cL_law 212 = .ok (.aload_n 0, 1) := by decide +kernel
theorem dL_law_213 : decode cL_law 213 = .ok (.iload_n 3, 1) := by decide +kernel
theorem dL_law_214 : decode cL_law 214 = .ok (.iconst 1, 1) := by decide +kernel
theorem dL_law_215 : decode cL_law 215 = .ok (.iadd, 1) := by decide +kernel
theorem dL_law_216 : decode cL_law 216 = .ok (.iaload, 1) := by decide +kernel
theorem dL_law_217 : decode cL_law 217 = .ok (.aload_n 0, 1) := by decide +kernel
theorem dL_law_218 : decode cL_law 218 = .ok (.iload_n 3, 1) := by decide +kernel
theorem dL_law_219 : decode cL_law 219 = .ok (.iconst 2, 1) := by decide +kernel
theorem dL_law_220 : decode cL_law 220 = .ok (.iadd, 1) := by decide +kernel
theorem dL_law_221 : decode cL_law 221 = .ok (.iaload, 1) := by decide +kernel
theorem dL_law_222 : decode cL_law 222 = .ok (.aload_n 0, 1) := by decide +kernel
theorem dL_law_223 : decode cL_law 223 = .ok (.iload_n 3, 1) := by decide +kernel
theorem dL_law_224 : decode cL_law 224 = .ok (.iconst 3, 1) := by decide +kernel
theorem dL_law_225 : decode cL_law 225 = .ok (.iadd, 1) := by decide +kernel
theorem dL_law_226 : decode cL_law 226 = .ok (.iaload, 1) := by decide +kernel
theorem dL_law_227 : decode cL_law 227 = .ok (.invokevirtual 17, 3) := by decide +kernel
theorem dL_law_230 : decode cL_law 230 = .ok (.if_icmp .eq 955, 3) := by decide +kernel
theorem dL_law_233 : decode cL_law 233 = .ok (.iconst 0, 1) := by decide +kernel
theorem dL_law_234 : decode cL_law 234 = .ok (.ireturn, 1) := by decide +kernel
theorem dL_law_235 : decode cL_law 235 = .ok (.aload_n 1, 1) := by decide +kernel
theorem dL_law_236 : decode cL_law 236 = .ok (.aload_n 0, 1) := by decide +kernel
theorem dL_law_237 : decode cL_law 237 = .ok (.iload_n 3, 1) := by decide +kernel
theorem dL_law_238 : decode cL_law 238 = .ok (.iconst 1, 1) := by decide +kernel
theorem dL_law_239 : decode cL_law 239 = .ok (.iadd, 1) := by decide +kernel
theorem dL_law_240 : decode cL_law 240 = .ok (.iaload, 1) := by decide +kernel
theorem dL_law_241 : decode cL_law 241 = .ok (.invokevirtual 18, 3) := by decide +kernel
theorem dL_law_244 : decode cL_law 244 = .ok (.aload_n 2, 1) := by decide +kernel
theorem dL_law_245 : decode cL_law 245 = .ok (.aload_n 0, 1) := by decide +kernel
theorem dL_law_246 : decode cL_law 246 = .ok (.iload_n 3, 1) := by decide +kernel
theorem dL_law_247 : decode cL_law 247 = .ok (.iconst 1, 1) := by decide +kernel
theorem dL_law_248 : decode cL_law 248 = .ok (.iadd, 1) := by decide +kernel
theorem dL_law_249 : decode cL_law 249 = .ok (.iaload, 1) := by decide +kernel
theorem dL_law_250 : decode cL_law 250 = .ok (.invokevirtual 22, 3) := by decide +kernel
theorem dL_law_253 : decode cL_law 253 = .ok (.if_icmp .eq 932, 3) := by decide +kernel
theorem dL_law_256 : decode cL_law 256 = .ok (.iconst 0, 1) := by decide +kernel
theorem dL_law_257 : decode cL_law 257 = .ok (.ireturn, 1) := by decide +kernel
theorem dL_law_258 : decode cL_law 258 = .ok (.aload_n 1, 1) := by decide +kernel
theorem dL_law_259 : decode cL_law 259 = .ok (.aload_n 0, 1) := by decide +kernel
theorem dL_law_260 : decode cL_law 260 = .ok (.iload_n 3, 1) := by decide +kernel
theorem dL_law_261 : decode cL_law 261 = .ok (.iconst 1, 1) := by decide +kernel
theorem dL_law_262 : decode cL_law 262 = .ok (.iadd, 1) := by decide +kernel
theorem dL_law_263 : decode cL_law 263 = .ok (.iaload, 1) := by decide +kernel
theorem dL_law_264 : decode cL_law 264 = .ok (.aload_n 0, 1) := by decide +kernel
theorem dL_law_265 : decode cL_law 265 = .ok (.iload_n 3, 1) := by decide +kernel
theorem dL_law_266 : decode cL_law 266 = .ok (.iconst 2, 1) := by decide +kernel
theorem dL_law_267 : decode cL_law 267 = .ok (.iadd, 1) := by decide +kernel
theorem dL_law_268 : decode cL_law 268 = .ok (.iaload, 1) := by decide +kernel
theorem dL_law_269 : decode cL_law 269 = .ok (.invokevirtual 23, 3) := by decide +kernel
theorem dL_law_272 : decode cL_law 272 = .ok (.aload_n 2, 1) := by decide +kernel
theorem dL_law_273 : decode cL_law 273 = .ok (.aload_n 0, 1) := by decide +kernel
theorem dL_law_274 : decode cL_law 274 = .ok (.iload_n 3, 1) := by decide +kernel
theorem dL_law_275 : decode cL_law 275 = .ok (.iconst 1, 1) := by decide +kernel
theorem dL_law_276 : decode cL_law 276 = .ok (.iadd, 1) := by decide +kernel
theorem dL_law_277 : decode cL_law 277 = .ok (.iaload, 1) := by decide +kernel
theorem dL_law_278 : decode cL_law 278 = .ok (.aload_n 0, 1) := by decide +kernel
theorem dL_law_279 : decode cL_law 279 = .ok (.iload_n 3, 1) := by decide +kernel
theorem dL_law_280 : decode cL_law 280 = .ok (.iconst 2, 1) := by decide +kernel
theorem dL_law_281 : decode cL_law 281 = .ok (.iadd, 1) := by decide +kernel
theorem dL_law_282 : decode cL_law 282 = .ok (.iaload, 1) := by decide +kernel
theorem dL_law_283 : decode cL_law 283 = .ok (.invokevirtual 27, 3) := by decide +kernel
theorem dL_law_286 : decode cL_law 286 = .ok (.if_icmp .eq 899, 3) := by decide +kernel
theorem dL_law_289 : decode cL_law 289 = .ok (.iconst 0, 1) := by decide +kernel
theorem dL_law_290 : decode cL_law 290 = .ok (.ireturn, 1) := by decide +kernel
theorem dL_law_291 : decode cL_law 291 = .ok (.aload_n 1, 1) := by decide +kernel
theorem dL_law_292 : decode cL_law 292 = .ok (.aload_n 0, 1) := by decide +kernel
theorem dL_law_293 : decode cL_law 293 = .ok (.iload_n 3, 1) := by decide +kernel
theorem dL_law_294 : decode cL_law 294 = .ok (.iconst 1, 1) := by decide +kernel
theorem dL_law_295 : decode cL_law 295 = .ok (.iadd, 1) := by decide +kernel
theorem dL_law_296 : decode cL_law 296 = .ok (.iaload, 1) := by decide +kernel
theorem dL_law_297 : decode cL_law 297 = .ok (.aload_n 0, 1) := by decide +kernel
theorem dL_law_298 : decode cL_law 298 = .ok (.iload_n 3, 1) := by decide +kernel
theorem dL_law_299 : decode cL_law 299 = .ok (.iconst 2, 1) := by decide +kernel
theorem dL_law_300 : decode cL_law 300 = .ok (.iadd, 1) := by decide +kernel
theorem dL_law_301 : decode cL_law 301 = .ok (.iaload, 1) := by decide +kernel
theorem dL_law_302 : decode cL_law 302 = .ok (.invokevirtual 28, 3) := by decide +kernel
theorem dL_law_305 : decode cL_law 305 = .ok (.aload_n 2, 1) := by decide +kernel
theorem dL_law_306 : decode cL_law 306 = .ok (.aload_n 0, 1) := by decide +kernel
theorem dL_law_307 : decode cL_law 307 = .ok (.iload_n 3, 1) := by decide +kernel
theorem dL_law_308 : decode cL_law 308 = .ok (.iconst 1, 1) := by decide +kernel
theorem dL_law_309 : decode cL_law 309 = .ok (.iadd, 1) := by decide +kernel
theorem dL_law_310 : decode cL_law 310 = .ok (.iaload, 1) := by decide +kernel
theorem dL_law_311 : decode cL_law 311 = .ok (.aload_n 0, 1) := by decide +kernel
theorem dL_law_312 : decode cL_law 312 = .ok (.iload_n 3, 1) := by decide +kernel
theorem dL_law_313 : decode cL_law 313 = .ok (.iconst 2, 1) := by decide +kernel
theorem dL_law_314 : decode cL_law 314 = .ok (.iadd, 1) := by decide +kernel
theorem dL_law_315 : decode cL_law 315 = .ok (.iaload, 1) := by decide +kernel
theorem dL_law_316 : decode cL_law 316 = .ok (.invokevirtual 31, 3) := by decide +kernel
theorem dL_law_319 : decode cL_law 319 = .ok (.if_icmp .eq 866, 3) := by decide +kernel
theorem dL_law_322 : decode cL_law 322 = .ok (.iconst 0, 1) := by decide +kernel
theorem dL_law_323 : decode cL_law 323 = .ok (.ireturn, 1) := by decide +kernel
theorem dL_law_324 : decode cL_law 324 = .ok (.aload_n 1, 1) := by decide +kernel
theorem dL_law_325 : decode cL_law 325 = .ok (.aload_n 0, 1) := by decide +kernel
theorem dL_law_326 : decode cL_law 326 = .ok (.iload_n 3, 1) := by decide +kernel
theorem dL_law_327 : decode cL_law 327 = .ok (.iconst 1, 1) := by decide +kernel
theorem dL_law_328 : decode cL_law 328 = .ok (.iadd, 1) := by decide +kernel
theorem dL_law_329 : decode cL_law 329 = .ok (.iaload, 1) := by decide +kernel
theorem dL_law_330 : decode cL_law 330 = .ok (.invokevirtual 32, 3) := by decide +kernel
theorem dL_law_333 : decode cL_law 333 = .ok (.aload_n 2, 1) := by decide +kernel
theorem dL_law_334 : decode cL_law 334 = .ok (.aload_n 0, 1) := by decide +kernel
theorem dL_law_335 : decode cL_law 335 = .ok (.iload_n 3, 1) := by decide +kernel
theorem dL_law_336 : decode cL_law 336 = .ok (.iconst 1, 1) := by decide +kernel
theorem dL_law_337 : decode cL_law 337 = .ok (.iadd, 1) := by decide +kernel
theorem dL_law_338 : decode cL_law 338 = .ok (.iaload, 1) := by decide +kernel
theorem dL_law_339 : decode cL_law 339 = .ok (.invokevirtual 35, 3) := by decide +kernel
theorem dL_law_342 : decode cL_law 342 = .ok (.if_icmp .eq 843, 3) := by decide +kernel
theorem dL_law_345 : decode cL_law 345 = .ok (.iconst 0, 1) := by decide +kernel
theorem dL_law_346 : decode cL_law 346 = .ok (.ireturn, 1) := by decide +kernel
theorem dL_law_347 : decode cL_law 347 = .ok (.aload_n 1, 1) := by decide +kernel
theorem dL_law_348 : decode cL_law 348 = .ok (.aload_n 0, 1) := by decide +kernel
theorem dL_law_349 : decode cL_law 349 = .ok (.iload_n 3, 1) := by decide +kernel
theorem dL_law_350 : decode cL_law 350 = .ok (.iconst 1, 1) := by decide +kernel
theorem dL_law_351 : decode cL_law 351 = .ok (.iadd, 1) := by decide +kernel
theorem dL_law_352 : decode cL_law 352 = .ok (.iaload, 1) := by decide +kernel
theorem dL_law_353 : decode cL_law 353 = .ok (.aload_n 0, 1) := by decide +kernel
theorem dL_law_354 : decode cL_law 354 = .ok (.iload_n 3, 1) := by decide +kernel
theorem dL_law_355 : decode cL_law 355 = .ok (.iconst 2, 1) := by decide +kernel
theorem dL_law_356 : decode cL_law 356 = .ok (.iadd, 1) := by decide +kernel
theorem dL_law_357 : decode cL_law 357 = .ok (.iaload, 1) := by decide +kernel
theorem dL_law_358 : decode cL_law 358 = .ok (.invokevirtual 36, 3) := by decide +kernel
theorem dL_law_361 : decode cL_law 361 = .ok (.aload_n 2, 1) := by decide +kernel
theorem dL_law_362 : decode cL_law 362 = .ok (.aload_n 0, 1) := by decide +kernel
theorem dL_law_363 : decode cL_law 363 = .ok (.iload_n 3, 1) := by decide +kernel
theorem dL_law_364 : decode cL_law 364 = .ok (.iconst 1, 1) := by decide +kernel
theorem dL_law_365 : decode cL_law 365 = .ok (.iadd, 1) := by decide +kernel
theorem dL_law_366 : decode cL_law 366 = .ok (.iaload, 1) := by decide +kernel
theorem dL_law_367 : decode cL_law 367 = .ok (.aload_n 0, 1) := by decide +kernel
theorem dL_law_368 : decode cL_law 368 = .ok (.iload_n 3, 1) := by decide +kernel
theorem dL_law_369 : decode cL_law 369 = .ok (.iconst 2, 1) := by decide +kernel
theorem dL_law_370 : decode cL_law 370 = .ok (.iadd, 1) := by decide +kernel
theorem dL_law_371 : decode cL_law 371 = .ok (.iaload, 1) := by decide +kernel
theorem dL_law_372 : decode cL_law 372 = .ok (.invokevirtual 39, 3) := by decide +kernel
theorem dL_law_375 : decode cL_law 375 = .ok (.if_icmp .eq 810, 3) := by decide +kernel
theorem dL_law_378 : decode cL_law 378 = .ok (.iconst 0, 1) := by decide +kernel
theorem dL_law_379 : decode cL_law 379 = .ok (.ireturn, 1) := by decide +kernel
theorem dL_law_380 : decode cL_law 380 = .ok (.aload_n 1, 1) := by decide +kernel
theorem dL_law_381 : decode cL_law 381 = .ok (.aload_n 0, 1) := by decide +kernel
theorem dL_law_382 : decode cL_law 382 = .ok (.iload_n 3, 1) := by decide +kernel
theorem dL_law_383 : decode cL_law 383 = .ok (.iconst 1, 1) := by decide +kernel
theorem dL_law_384 : decode cL_law 384 = .ok (.iadd, 1) := by decide +kernel
theorem dL_law_385 : decode cL_law 385 = .ok (.iaload, 1) := by decide +kernel
theorem dL_law_386 : decode cL_law 386 = .ok (.invokevirtual 40, 3) := by decide +kernel
theorem dL_law_389 : decode cL_law 389 = .ok (.aload_n 2, 1) := by decide +kernel
theorem dL_law_390 : decode cL_law 390 = .ok (.aload_n 0, 1) := by decide +kernel
theorem dL_law_391 : decode cL_law 391 = .ok (.iload_n 3, 1) := by decide +kernel
theorem dL_law_392 : decode cL_law 392 = .ok (.iconst 1, 1) := by decide +kernel
theorem dL_law_393 : decode cL_law 393 = .ok (.iadd, 1) := by decide +kernel
theorem dL_law_394 : decode cL_law 394 = .ok (.iaload, 1) := by decide +kernel
theorem dL_law_395 : decode cL_law 395 = .ok (.invokevirtual 43, 3) := by decide +kernel
theorem dL_law_398 : decode cL_law 398 = .ok (.if_icmp .eq 787, 3) := by decide +kernel
theorem dL_law_401 : decode cL_law 401 = .ok (.iconst 0, 1) := by decide +kernel
theorem dL_law_402 : decode cL_law 402 = .ok (.ireturn, 1) := by decide +kernel
theorem dL_law_403 : decode cL_law 403 = .ok (.aload_n 1, 1) := by decide +kernel
theorem dL_law_404 : decode cL_law 404 = .ok (.aload_n 0, 1) := by decide +kernel
theorem dL_law_405 : decode cL_law 405 = .ok (.iload_n 3, 1) := by decide +kernel
theorem dL_law_406 : decode cL_law 406 = .ok (.iconst 1, 1) := by decide +kernel
theorem dL_law_407 : decode cL_law 407 = .ok (.iadd, 1) := by decide +kernel
theorem dL_law_408 : decode cL_law 408 = .ok (.iaload, 1) := by decide +kernel
theorem dL_law_409 : decode cL_law 409 = .ok (.aload_n 0, 1) := by decide +kernel
theorem dL_law_410 : decode cL_law 410 = .ok (.iload_n 3, 1) := by decide +kernel
theorem dL_law_411 : decode cL_law 411 = .ok (.iconst 2, 1) := by decide +kernel
theorem dL_law_412 : decode cL_law 412 = .ok (.iadd, 1) := by decide +kernel
theorem dL_law_413 : decode cL_law 413 = .ok (.iaload, 1) := by decide +kernel
theorem dL_law_414 : decode cL_law 414 = .ok (.invokevirtual 44, 3) := by decide +kernel
theorem dL_law_417 : decode cL_law 417 = .ok (.aload_n 2, 1) := by decide +kernel
theorem dL_law_418 : decode cL_law 418 = .ok (.aload_n 0, 1) := by decide +kernel
theorem dL_law_419 : decode cL_law 419 = .ok (.iload_n 3, 1) := by decide +kernel
theorem dL_law_420 : decode cL_law 420 = .ok (.iconst 1, 1) := by decide +kernel
theorem dL_law_421 : decode cL_law 421 = .ok (.iadd, 1) := by decide +kernel
theorem dL_law_422 : decode cL_law 422 = .ok (.iaload, 1) := by decide +kernel
theorem dL_law_423 : decode cL_law 423 = .ok (.aload_n 0, 1) := by decide +kernel
theorem dL_law_424 : decode cL_law 424 = .ok (.iload_n 3, 1) := by decide +kernel
theorem dL_law_425 : decode cL_law 425 = .ok (.iconst 2, 1) := by decide +kernel
theorem dL_law_426 : decode cL_law 426 = .ok (.iadd, 1) := by decide +kernel
theorem dL_law_427 : decode cL_law 427 = .ok (.iaload, 1) := by decide +kernel
theorem dL_law_428 : decode cL_law 428 = .ok (.invokevirtual 47, 3) := by decide +kernel
theorem dL_law_431 : decode cL_law 431 = .ok (.if_icmp .eq 754, 3) := by decide +kernel
theorem dL_law_434 : decode cL_law 434 = .ok (.iconst 0, 1) := by decide +kernel
theorem dL_law_435 : decode cL_law 435 = .ok (.ireturn, 1) := by decide +kernel
theorem dL_law_436 : decode cL_law 436 = .ok (.aload_n 1, 1) := by decide +kernel
theorem dL_law_437 : decode cL_law 437 = .ok (.aload_n 0, 1) := by decide +kernel
theorem dL_law_438 : decode cL_law 438 = .ok (.iload_n 3, 1) := by decide +kernel
theorem dL_law_439 : decode cL_law 439 = .ok (.iconst 1, 1) := by decide +kernel
theorem dL_law_440 : decode cL_law 440 = .ok (.iadd, 1) := by decide +kernel
theorem dL_law_441 : decode cL_law 441 = .ok (.iaload, 1) := by decide +kernel
theorem dL_law_442 : decode cL_law 442 = .ok (.aload_n 0, 1) := by decide +kernel
theorem dL_law_443 : decode cL_law 443 = .ok (.iload_n 3, 1) := by decide +kernel
theorem dL_law_444 : decode cL_law 444 = .ok (.iconst 2, 1) := by decide +kernel
theorem dL_law_445 : decode cL_law 445 = .ok (.iadd, 1) := by decide +kernel
theorem dL_law_446 : decode cL_law 446 = .ok (.iaload, 1) := by decide +kernel
theorem dL_law_447 : decode cL_law 447 = .ok (.aload_n 0, 1) := by decide +kernel
theorem dL_law_448 : decode cL_law 448 = .ok (.iload_n 3, 1) := by decide +kernel
theorem dL_law_449 : decode cL_law 449 = .ok (.iconst 3, 1) := by decide +kernel
theorem dL_law_450 : decode cL_law 450 = .ok (.iadd, 1) := by decide +kernel
theorem dL_law_451 : decode cL_law 451 = .ok (.iaload, 1) := by decide +kernel
theorem dL_law_452 : decode cL_law 452 = .ok (.invokevirtual 48, 3) := by decide +kernel
theorem dL_law_455 : decode cL_law 455 = .ok (.aload_n 2, 1) := by decide +kernel
theorem dL_law_456 : decode cL_law 456 = .ok (.aload_n 0, 1) := by decide +kernel
theorem dL_law_457 : decode cL_law 457 = .ok (.iload_n 3, 1) := by decide +kernel
theorem dL_law_458 : decode cL_law 458 = .ok (.iconst 1, 1) := by decide +kernel
theorem dL_law_459 : decode cL_law 459 = .ok (.iadd, 1) := by decide +kernel
theorem dL_law_460 : decode cL_law 460 = .ok (.iaload, 1) := by decide +kernel
theorem dL_law_461 : decode cL_law 461 = .ok (.aload_n 0, 1) := by decide +kernel
theorem dL_law_462 : decode cL_law 462 = .ok (.iload_n 3, 1) := by decide +kernel
theorem dL_law_463 : decode cL_law 463 = .ok (.iconst 2, 1) := by decide +kernel
theorem dL_law_464 : decode cL_law 464 = .ok (.iadd, 1) := by decide +kernel
theorem dL_law_465 : decode cL_law 465 = .ok (.iaload, 1) := by decide +kernel
theorem dL_law_466 : decode cL_law 466 = .ok (.aload_n 0, 1) := by decide +kernel
theorem dL_law_467 : decode cL_law 467 = .ok (.iload_n 3, 1) := by decide +kernel
theorem dL_law_468 : decode cL_law 468 = .ok (.iconst 3, 1) := by decide +kernel
theorem dL_law_469 : decode cL_law 469 = .ok (.iadd, 1) := by decide +kernel
theorem dL_law_470 : decode cL_law 470 = .ok (.iaload, 1) := by decide +kernel
theorem dL_law_471 : decode cL_law 471 = .ok (.invokevirtual 51, 3) := by decide +kernel
theorem dL_law_474 : decode cL_law 474 = .ok (.if_icmp .eq 711, 3) := by decide +kernel
theorem dL_law_477 : decode cL_law 477 = .ok (.iconst 0, 1) := by decide +kernel
theorem dL_law_478 : decode cL_law 478 = .ok (.ireturn, 1) := by decide +kernel
theorem dL_law_479 : decode cL_law 479 = .ok (.aload_n 1, 1) := by decide +kernel
theorem dL_law_480 : decode cL_law 480 = .ok (.aload_n 0, 1) := by decide +kernel
theorem dL_law_481 : decode cL_law 481 = .ok (.iload_n 3, 1) := by decide +kernel
theorem dL_law_482 : decode cL_law 482 = .ok (.iconst 1, 1) := by decide +kernel
theorem dL_law_483 : decode cL_law 483 = .ok (.iadd, 1) := by decide +kernel
theorem dL_law_484 : decode cL_law 484 = .ok (.iaload, 1) := by decide +kernel
theorem dL_law_485 : decode cL_law 485 = .ok (.invokevirtual 52, 3) := by decide +kernel
theorem dL_law_488 : decode cL_law 488 = .ok (.aload_n 2, 1) := by decide +kernel
theorem dL_law_489 : decode cL_law 489 = .ok (.aload_n 0, 1) := by decide +kernel
theorem dL_law_490 : decode cL_law 490 = .ok (.iload_n 3, 1) := by decide +kernel
theorem dL_law_491 : decode cL_law 491 = .ok (.iconst 1, 1) := by decide +kernel
theorem dL_law_492 : decode cL_law 492 = .ok (.iadd, 1) := by decide +kernel
theorem dL_law_493 : decode cL_law 493 = .ok (.iaload, 1) := by decide +kernel
theorem dL_law_494 : decode cL_law 494 = .ok (.invokevirtual 55, 3) := by decide +kernel
theorem dL_law_497 : decode cL_law 497 = .ok (.if_icmp .eq 688, 3) := by decide +kernel
theorem dL_law_500 : decode cL_law 500 = .ok (.iconst 0, 1) := by decide +kernel
theorem dL_law_501 : decode cL_law 501 = .ok (.ireturn, 1) := by decide +kernel
theorem dL_law_502 : decode cL_law 502 = .ok (.aload_n 1, 1) := by decide +kernel
theorem dL_law_503 : decode cL_law 503 = .ok (.aload_n 0, 1) := by decide +kernel
theorem dL_law_504 : decode cL_law 504 = .ok (.iload_n 3, 1) := by decide +kernel
theorem dL_law_505 : decode cL_law 505 = .ok (.iconst 1, 1) := by decide +kernel
theorem dL_law_506 : decode cL_law 506 = .ok (.iadd, 1) := by decide +kernel
theorem dL_law_507 : decode cL_law 507 = .ok (.iaload, 1) := by decide +kernel
theorem dL_law_508 : decode cL_law 508 = .ok (.aload_n 0, 1) := by decide +kernel
theorem dL_law_509 : decode cL_law 509 = .ok (.iload_n 3, 1) := by decide +kernel
theorem dL_law_510 : decode cL_law 510 = .ok (.iconst 2, 1) := by decide +kernel
theorem dL_law_511 : decode cL_law 511 = .ok (.iadd, 1) := by decide +kernel
theorem dL_law_512 : decode cL_law 512 = .ok (.iaload, 1) := by decide +kernel
theorem dL_law_513 : decode cL_law 513 = .ok (.aload_n 0, 1) := by decide +kernel
theorem dL_law_514 : decode cL_law 514 = .ok (.iload_n 3, 1) := by decide +kernel
theorem dL_law_515 : decode cL_law 515 = .ok (.iconst 3, 1) := by decide +kernel
theorem dL_law_516 : decode cL_law 516 = .ok (.iadd, 1) := by decide +kernel
theorem dL_law_517 : decode cL_law 517 = .ok (.iaload, 1) := by decide +kernel
theorem dL_law_518 : decode cL_law 518 = .ok (.aload_n 0, 1) := by decide +kernel
theorem dL_law_519 : decode cL_law 519 = .ok (.iload_n 3, 1) := by decide +kernel
theorem dL_law_520 : decode cL_law 520 = .ok (.iconst 4, 1) := by decide +kernel
theorem dL_law_521 : decode cL_law 521 = .ok (.iadd, 1) := by decide +kernel
theorem dL_law_522 : decode cL_law 522 = .ok (.iaload, 1) := by decide +kernel
theorem dL_law_523 : decode cL_law 523 = .ok (.aload_n 0, 1) := by decide +kernel
theorem dL_law_524 : decode cL_law 524 = .ok (.iload_n 3, 1) := by decide +kernel
theorem dL_law_525 : decode cL_law 525 = .ok (.iconst 5, 1) := by decide +kernel
theorem dL_law_526 : decode cL_law 526 = .ok (.iadd, 1) := by decide +kernel
theorem dL_law_527 : decode cL_law 527 = .ok (.iaload, 1) := by decide +kernel
theorem dL_law_528 : decode cL_law 528 = .ok (.invokevirtual 56, 3) := by decide +kernel
theorem dL_law_531 : decode cL_law 531 = .ok (.aload_n 2, 1) := by decide +kernel
theorem dL_law_532 : decode cL_law 532 = .ok (.aload_n 0, 1) := by decide +kernel
theorem dL_law_533 : decode cL_law 533 = .ok (.iload_n 3, 1) := by decide +kernel
theorem dL_law_534 : decode cL_law 534 = .ok (.iconst 1, 1) := by decide +kernel
theorem dL_law_535 : decode cL_law 535 = .ok (.iadd, 1) := by decide +kernel
theorem dL_law_536 : decode cL_law 536 = .ok (.iaload, 1) := by decide +kernel
theorem dL_law_537 : decode cL_law 537 = .ok (.aload_n 0, 1) := by decide +kernel
theorem dL_law_538 : decode cL_law 538 = .ok (.iload_n 3, 1) := by decide +kernel
theorem dL_law_539 : decode cL_law 539 = .ok (.iconst 2, 1) := by decide +kernel
theorem dL_law_540 : decode cL_law 540 = .ok (.iadd, 1) := by decide +kernel
theorem dL_law_541 : decode cL_law 541 = .ok (.iaload, 1) := by decide +kernel
theorem dL_law_542 : decode cL_law 542 = .ok (.aload_n 0, 1) := by decide +kernel
theorem dL_law_543 : decode cL_law 543 = .ok (.iload_n 3, 1) := by decide +kernel
theorem dL_law_544 : decode cL_law 544 = .ok (.iconst 3, 1) := by decide +kernel
theorem dL_law_545 : decode cL_law 545 = .ok (.iadd, 1) := by decide +kernel
theorem dL_law_546 : decode cL_law 546 = .ok (.iaload, 1) := by decide +kernel
theorem dL_law_547 : decode cL_law 547 = .ok (.aload_n 0, 1) := by decide +kernel
theorem dL_law_548 : decode cL_law 548 = .ok (.iload_n 3, 1) := by decide +kernel
theorem dL_law_549 : decode cL_law 549 = .ok (.iconst 4, 1) := by decide +kernel
theorem dL_law_550 : decode cL_law 550 = .ok (.iadd, 1) := by decide +kernel
theorem dL_law_551 : decode cL_law 551 = .ok (.iaload, 1) := by decide +kernel
theorem dL_law_552 : decode cL_law 552 = .ok (.aload_n 0, 1) := by decide +kernel
theorem dL_law_553 : decode cL_law 553 = .ok (.iload_n 3, 1) := by decide +kernel
theorem dL_law_554 : decode cL_law 554 = .ok (.iconst 5, 1) := by decide +kernel
theorem dL_law_555 : decode cL_law 555 = .ok (.iadd, 1) := by decide +kernel
theorem dL_law_556 : decode cL_law 556 = .ok (.iaload, 1) := by decide +kernel
theorem dL_law_557 : decode cL_law 557 = .ok (.invokevirtual 60, 3) := by decide +kernel
theorem dL_law_560 : decode cL_law 560 = .ok (.if_icmp .eq 625, 3) := by decide +kernel
theorem dL_law_563 : decode cL_law 563 = .ok (.iconst 0, 1) := by decide +kernel
theorem dL_law_564 : decode cL_law 564 = .ok (.ireturn, 1) := by decide +kernel
theorem dL_law_565 : decode cL_law 565 = .ok (.aload_n 1, 1) := by decide +kernel
theorem dL_law_566 : decode cL_law 566 = .ok (.aload_n 0, 1) := by decide +kernel
theorem dL_law_567 : decode cL_law 567 = .ok (.iload_n 3, 1) := by decide +kernel
theorem dL_law_568 : decode cL_law 568 = .ok (.iconst 1, 1) := by decide +kernel
theorem dL_law_569 : decode cL_law 569 = .ok (.iadd, 1) := by decide +kernel
theorem dL_law_570 : decode cL_law 570 = .ok (.iaload, 1) := by decide +kernel
theorem dL_law_571 : decode cL_law 571 = .ok (.invokevirtual 61, 3) := by decide +kernel
theorem dL_law_574 : decode cL_law 574 = .ok (.aload_n 2, 1) := by decide +kernel
theorem dL_law_575 : decode cL_law 575 = .ok (.aload_n 0, 1) := by decide +kernel
theorem dL_law_576 : decode cL_law 576 = .ok (.iload_n 3, 1) := by decide +kernel
theorem dL_law_577 : decode cL_law 577 = .ok (.iconst 1, 1) := by decide +kernel
theorem dL_law_578 : decode cL_law 578 = .ok (.iadd, 1) := by decide +kernel
theorem dL_law_579 : decode cL_law 579 = .ok (.iaload, 1) := by decide +kernel
theorem dL_law_580 : decode cL_law 580 = .ok (.invokevirtual 64, 3) := by decide +kernel
theorem dL_law_583 : decode cL_law 583 = .ok (.if_icmp .eq 602, 3) := by decide +kernel
theorem dL_law_586 : decode cL_law 586 = .ok (.iconst 0, 1) := by decide +kernel
theorem dL_law_587 : decode cL_law 587 = .ok (.ireturn, 1) := by decide +kernel
theorem dL_law_588 : decode cL_law 588 = .ok (.aload_n 1, 1) := by decide +kernel
theorem dL_law_589 : decode cL_law 589 = .ok (.aload_n 0, 1) := by decide +kernel
theorem dL_law_590 : decode cL_law 590 = .ok (.iload_n 3, 1) := by decide +kernel
theorem dL_law_591 : decode cL_law 591 = .ok (.iconst 1, 1) := by decide +kernel
theorem dL_law_592 : decode cL_law 592 = .ok (.iadd, 1) := by decide +kernel
theorem dL_law_593 : decode cL_law 593 = .ok (.iaload, 1) := by decide +kernel
theorem dL_law_594 : decode cL_law 594 = .ok (.invokevirtual 65, 3) := by decide +kernel
theorem dL_law_597 : decode cL_law 597 = .ok (.aload_n 2, 1) := by decide +kernel
theorem dL_law_598 : decode cL_law 598 = .ok (.aload_n 0, 1) := by decide +kernel
theorem dL_law_599 : decode cL_law 599 = .ok (.iload_n 3, 1) := by decide +kernel
theorem dL_law_600 : decode cL_law 600 = .ok (.iconst 1, 1) := by decide +kernel
theorem dL_law_601 : decode cL_law 601 = .ok (.iadd, 1) := by decide +kernel
theorem dL_law_602 : decode cL_law 602 = .ok (.iaload, 1) := by decide +kernel
theorem dL_law_603 : decode cL_law 603 = .ok (.invokevirtual 68, 3) := by decide +kernel
theorem dL_law_606 : decode cL_law 606 = .ok (.if_icmp .eq 579, 3) := by decide +kernel
theorem dL_law_609 : decode cL_law 609 = .ok (.iconst 0, 1) := by decide +kernel
theorem dL_law_610 : decode cL_law 610 = .ok (.ireturn, 1) := by decide +kernel
theorem dL_law_611 : decode cL_law 611 = .ok (.aload_n 1, 1) := by decide +kernel
theorem dL_law_612 : decode cL_law 612 = .ok (.aload_n 0, 1) := by decide +kernel
theorem dL_law_613 : decode cL_law 613 = .ok (.iload_n 3, 1) := by decide +kernel
theorem dL_law_614 : decode cL_law 614 = .ok (.iconst 1, 1) := by decide +kernel
theorem dL_law_615 : decode cL_law 615 = .ok (.iadd, 1) := by decide +kernel
theorem dL_law_616 : decode cL_law 616 = .ok (.iaload, 1) := by decide +kernel
theorem dL_law_617 : decode cL_law 617 = .ok (.invokevirtual 69, 3) := by decide +kernel
theorem dL_law_620 : decode cL_law 620 = .ok (.aload_n 2, 1) := by decide +kernel
theorem dL_law_621 : decode cL_law 621 = .ok (.aload_n 0, 1) := by decide +kernel
theorem dL_law_622 : decode cL_law 622 = .ok (.iload_n 3, 1) := by decide +kernel
theorem dL_law_623 : decode cL_law 623 = .ok (.iconst 1, 1) := by decide +kernel
theorem dL_law_624 : decode cL_law 624 = .ok (.iadd, 1) := by decide +kernel
theorem dL_law_625 : decode cL_law 625 = .ok (.iaload, 1) := by decide +kernel
theorem dL_law_626 : decode cL_law 626 = .ok (.invokevirtual 72, 3) := by decide +kernel
theorem dL_law_629 : decode cL_law 629 = .ok (.if_icmp .eq 556, 3) := by decide +kernel
theorem dL_law_632 : decode cL_law 632 = .ok (.iconst 0, 1) := by decide +kernel
theorem dL_law_633 : decode cL_law 633 = .ok (.ireturn, 1) := by decide +kernel
theorem dL_law_634 : decode cL_law 634 = .ok (.aload_n 1, 1) := by decide +kernel
theorem dL_law_635 : decode cL_law 635 = .ok (.aload_n 0, 1) := by decide +kernel
theorem dL_law_636 : decode cL_law 636 = .ok (.iload_n 3, 1) := by decide +kernel
theorem dL_law_637 : decode cL_law 637 = .ok (.iconst 1, 1) := by decide +kernel
theorem dL_law_638 : decode cL_law 638 = .ok (.iadd, 1) := by decide +kernel
theorem dL_law_639 : decode cL_law 639 = .ok (.iaload, 1) := by decide +kernel
theorem dL_law_640 : decode cL_law 640 = .ok (.aload_n 0, 1) := by decide +kernel
theorem dL_law_641 : decode cL_law 641 = .ok (.iload_n 3, 1) := by decide +kernel
theorem dL_law_642 : decode cL_law 642 = .ok (.iconst 2, 1) := by decide +kernel
theorem dL_law_643 : decode cL_law 643 = .ok (.iadd, 1) := by decide +kernel
theorem dL_law_644 : decode cL_law 644 = .ok (.iaload, 1) := by decide +kernel
theorem dL_law_645 : decode cL_law 645 = .ok (.ifCond .eq 7, 3) := by decide +kernel
theorem dL_law_648 : decode cL_law 648 = .ok (.iconst 1, 1) := by decide +kernel
theorem dL_law_649 : decode cL_law 649 = .ok (.goto 4, 3) := by decide +kernel
theorem dL_law_652 : decode cL_law 652 = .ok (.iconst 0, 1) := by decide +kernel
theorem dL_law_653 : decode cL_law 653 = .ok (.invokevirtual 73, 3) := by decide +kernel
theorem dL_law_656 : decode cL_law 656 = .ok (.aload_n 2, 1) := by decide +kernel
theorem dL_law_657 : decode cL_law 657 = .ok (.aload_n 0, 1) := by decide +kernel
theorem dL_law_658 : decode cL_law 658 = .ok (.iload_n 3, 1) := by decide +kernel
theorem dL_law_659 : decode cL_law 659 = .ok (.iconst 1, 1) := by decide +kernel
theorem dL_law_660 : decode cL_law 660 = .ok (.iadd, 1) := by decide +kernel
theorem dL_law_661 : decode cL_law 661 = .ok (.iaload, 1) := by decide +kernel
theorem dL_law_662 : decode cL_law 662 = .ok (.aload_n 0, 1) := by decide +kernel
theorem dL_law_663 : decode cL_law 663 = .ok (.iload_n 3, 1) := by decide +kernel
theorem dL_law_664 : decode cL_law 664 = .ok (.iconst 2, 1) := by decide +kernel
theorem dL_law_665 : decode cL_law 665 = .ok (.iadd, 1) := by decide +kernel
theorem dL_law_666 : decode cL_law 666 = .ok (.iaload, 1) := by decide +kernel
theorem dL_law_667 : decode cL_law 667 = .ok (.ifCond .eq 7, 3) := by decide +kernel
theorem dL_law_670 : decode cL_law 670 = .ok (.iconst 1, 1) := by decide +kernel
theorem dL_law_671 : decode cL_law 671 = .ok (.goto 4, 3) := by decide +kernel
theorem dL_law_674 : decode cL_law 674 = .ok (.iconst 0, 1) := by decide +kernel
theorem dL_law_675 : decode cL_law 675 = .ok (.invokevirtual 77, 3) := by decide +kernel
theorem dL_law_678 : decode cL_law 678 = .ok (.if_icmp .eq 507, 3) := by decide +kernel
theorem dL_law_681 : decode cL_law 681 = .ok (.iconst 0, 1) := by decide +kernel
theorem dL_law_682 : decode cL_law 682 = .ok (.ireturn, 1) := by decide +kernel
theorem dL_law_683 : decode cL_law 683 = .ok (.aload_n 1, 1) := by decide +kernel
theorem dL_law_684 : decode cL_law 684 = .ok (.aload_n 0, 1) := by decide +kernel
theorem dL_law_685 : decode cL_law 685 = .ok (.iload_n 3, 1) := by decide +kernel
theorem dL_law_686 : decode cL_law 686 = .ok (.iconst 1, 1) := by decide +kernel
theorem dL_law_687 : decode cL_law 687 = .ok (.iadd, 1) := by decide +kernel
theorem dL_law_688 : decode cL_law 688 = .ok (.iaload, 1) := by decide +kernel
theorem dL_law_689 : decode cL_law 689 = .ok (.aload_n 0, 1) := by decide +kernel
theorem dL_law_690 : decode cL_law 690 = .ok (.iload_n 3, 1) := by decide +kernel
theorem dL_law_691 : decode cL_law 691 = .ok (.iconst 2, 1) := by decide +kernel
theorem dL_law_692 : decode cL_law 692 = .ok (.iadd, 1) := by decide +kernel
theorem dL_law_693 : decode cL_law 693 = .ok (.iaload, 1) := by decide +kernel
theorem dL_law_694 : decode cL_law 694 = .ok (.invokevirtual 78, 3) := by decide +kernel
theorem dL_law_697 : decode cL_law 697 = .ok (.aload_n 2, 1) := by decide +kernel
theorem dL_law_698 : decode cL_law 698 = .ok (.aload_n 0, 1) := by decide +kernel
theorem dL_law_699 : decode cL_law 699 = .ok (.iload_n 3, 1) := by decide +kernel
theorem dL_law_700 : decode cL_law 700 = .ok (.iconst 1, 1) := by decide +kernel
theorem dL_law_701 : decode cL_law 701 = .ok (.iadd, 1) := by decide +kernel
theorem dL_law_702 : decode cL_law 702 = .ok (.iaload, 1) := by decide +kernel
theorem dL_law_703 : decode cL_law 703 = .ok (.aload_n 0, 1) := by decide +kernel
theorem dL_law_704 : decode cL_law 704 = .ok (.iload_n 3, 1) := by decide +kernel
theorem dL_law_705 : decode cL_law 705 = .ok (.iconst 2, 1) := by decide +kernel
theorem dL_law_706 : decode cL_law 706 = .ok (.iadd, 1) := by decide +kernel
theorem dL_law_707 : decode cL_law 707 = .ok (.iaload, 1) := by decide +kernel
theorem dL_law_708 : decode cL_law 708 = .ok (.invokevirtual 81, 3) := by decide +kernel
theorem dL_law_711 : decode cL_law 711 = .ok (.if_icmp .eq 474, 3) := by decide +kernel
theorem dL_law_714 : decode cL_law 714 = .ok (.iconst 0, 1) := by decide +kernel
theorem dL_law_715 : decode cL_law 715 = .ok (.ireturn, 1) := by decide +kernel
theorem dL_law_716 : decode cL_law 716 = .ok (.aload_n 1, 1) := by decide +kernel
theorem dL_law_717 : decode cL_law 717 = .ok (.invokevirtual 82, 3) := by decide +kernel
theorem dL_law_720 : decode cL_law 720 = .ok (.aload_n 2, 1) := by decide +kernel
theorem dL_law_721 : decode cL_law 721 = .ok (.invokevirtual 86, 3) := by decide +kernel
theorem dL_law_724 : decode cL_law 724 = .ok (.if_icmp .eq 461, 3) := by decide +kernel
theorem dL_law_727 : decode cL_law 727 = .ok (.iconst 0, 1) := by decide +kernel
theorem dL_law_728 : decode cL_law 728 = .ok (.ireturn, 1) := by decide +kernel
theorem dL_law_729 : decode cL_law 729 = .ok (.aload_n 1, 1) := by decide +kernel
theorem dL_law_730 : decode cL_law 730 = .ok (.invokevirtual 87, 3) := by decide +kernel
theorem dL_law_733 : decode cL_law 733 = .ok (.aload_n 2, 1) := by decide +kernel
theorem dL_law_734 : decode cL_law 734 = .ok (.invokevirtual 90, 3) := by decide +kernel
theorem dL_law_737 : decode cL_law 737 = .ok (.if_icmp .eq 448, 3) := by decide +kernel
theorem dL_law_740 : decode cL_law 740 = .ok (.iconst 0, 1) := by decide +kernel
theorem dL_law_741 : decode cL_law 741 = .ok (.ireturn, 1) := by decide +kernel
theorem dL_law_742 : decode cL_law 742 = .ok (.aload_n 1, 1) := by decide +kernel
theorem dL_law_743 : decode cL_law 743 = .ok (.aload_n 0, 1) := by decide +kernel
theorem dL_law_744 : decode cL_law 744 = .ok (.iload_n 3, 1) := by decide +kernel
theorem dL_law_745 : decode cL_law 745 = .ok (.iconst 1, 1) := by decide +kernel
theorem dL_law_746 : decode cL_law 746 = .ok (.iadd, 1) := by decide +kernel
theorem dL_law_747 : decode cL_law 747 = .ok (.iaload, 1) := by decide +kernel
theorem dL_law_748 : decode cL_law 748 = .ok (.aload_n 0, 1) := by decide +kernel
theorem dL_law_749 : decode cL_law 749 = .ok (.iload_n 3, 1) := by decide +kernel
theorem dL_law_750 : decode cL_law 750 = .ok (.iconst 2, 1) := by decide +kernel
theorem dL_law_751 : decode cL_law 751 = .ok (.iadd, 1) := by decide +kernel
theorem dL_law_752 : decode cL_law 752 = .ok (.iaload, 1) := by decide +kernel
theorem dL_law_753 : decode cL_law 753 = .ok (.ifCond .eq 7, 3) := by decide +kernel
theorem dL_law_756 : decode cL_law 756 = .ok (.iconst 1, 1) := by decide +kernel
theorem dL_law_757 : decode cL_law 757 = .ok (.goto 4, 3) := by decide +kernel
theorem dL_law_760 : decode cL_law 760 = .ok (.iconst 0, 1) := by decide +kernel
theorem dL_law_761 : decode cL_law 761 = .ok (.invokevirtual 91, 3) := by decide +kernel
theorem dL_law_764 : decode cL_law 764 = .ok (.aload_n 2, 1) := by decide +kernel
theorem dL_law_765 : decode cL_law 765 = .ok (.aload_n 0, 1) := by decide +kernel
theorem dL_law_766 : decode cL_law 766 = .ok (.iload_n 3, 1) := by decide +kernel
theorem dL_law_767 : decode cL_law 767 = .ok (.iconst 1, 1) := by decide +kernel
theorem dL_law_768 : decode cL_law 768 = .ok (.iadd, 1) := by decide +kernel
theorem dL_law_769 : decode cL_law 769 = .ok (.iaload, 1) := by decide +kernel
theorem dL_law_770 : decode cL_law 770 = .ok (.aload_n 0, 1) := by decide +kernel
theorem dL_law_771 : decode cL_law 771 = .ok (.iload_n 3, 1) := by decide +kernel
theorem dL_law_772 : decode cL_law 772 = .ok (.iconst 2, 1) := by decide +kernel
theorem dL_law_773 : decode cL_law 773 = .ok (.iadd, 1) := by decide +kernel
theorem dL_law_774 : decode cL_law 774 = .ok (.iaload, 1) := by decide +kernel
theorem dL_law_775 : decode cL_law 775 = .ok (.ifCond .eq 7, 3) := by decide +kernel
theorem dL_law_778 : decode cL_law 778 = .ok (.iconst 1, 1) := by decide +kernel
theorem dL_law_779 : decode cL_law 779 = .ok (.goto 4, 3) := by decide +kernel
theorem dL_law_782 : decode cL_law 782 = .ok (.iconst 0, 1) := by decide +kernel
theorem dL_law_783 : decode cL_law 783 = .ok (.invokevirtual 94, 3) := by decide +kernel
theorem dL_law_786 : decode cL_law 786 = .ok (.if_icmp .eq 399, 3) := by decide +kernel
theorem dL_law_789 : decode cL_law 789 = .ok (.iconst 0, 1) := by decide +kernel
theorem dL_law_790 : decode cL_law 790 = .ok (.ireturn, 1) := by decide +kernel
theorem dL_law_791 : decode cL_law 791 = .ok (.aload_n 1, 1) := by decide +kernel
theorem dL_law_792 : decode cL_law 792 = .ok (.aload_n 0, 1) := by decide +kernel
theorem dL_law_793 : decode cL_law 793 = .ok (.iload_n 3, 1) := by decide +kernel
theorem dL_law_794 : decode cL_law 794 = .ok (.iconst 1, 1) := by decide +kernel
theorem dL_law_795 : decode cL_law 795 = .ok (.iadd, 1) := by decide +kernel
theorem dL_law_796 : decode cL_law 796 = .ok (.iaload, 1) := by decide +kernel
theorem dL_law_797 : decode cL_law 797 = .ok (.aload_n 0, 1) := by decide +kernel
theorem dL_law_798 : decode cL_law 798 = .ok (.iload_n 3, 1) := by decide +kernel
theorem dL_law_799 : decode cL_law 799 = .ok (.iconst 2, 1) := by decide +kernel
theorem dL_law_800 : decode cL_law 800 = .ok (.iadd, 1) := by decide +kernel
theorem dL_law_801 : decode cL_law 801 = .ok (.iaload, 1) := by decide +kernel
theorem dL_law_802 : decode cL_law 802 = .ok (.invokevirtual 95, 3) := by decide +kernel
theorem dL_law_805 : decode cL_law 805 = .ok (.aload_n 2, 1) := by decide +kernel
theorem dL_law_806 : decode cL_law 806 = .ok (.aload_n 0, 1) := by decide +kernel
theorem dL_law_807 : decode cL_law 807 = .ok (.iload_n 3, 1) := by decide +kernel
theorem dL_law_808 : decode cL_law 808 = .ok (.iconst 1, 1) := by decide +kernel
theorem dL_law_809 : decode cL_law 809 = .ok (.iadd, 1) := by decide +kernel
theorem dL_law_810 : decode cL_law 810 = .ok (.iaload, 1) := by decide +kernel
theorem dL_law_811 : decode cL_law 811 = .ok (.aload_n 0, 1) := by decide +kernel
theorem dL_law_812 : decode cL_law 812 = .ok (.iload_n 3, 1) := by decide +kernel
theorem dL_law_813 : decode cL_law 813 = .ok (.iconst 2, 1) := by decide +kernel
theorem dL_law_814 : decode cL_law 814 = .ok (.iadd, 1) := by decide +kernel
theorem dL_law_815 : decode cL_law 815 = .ok (.iaload, 1) := by decide +kernel
theorem dL_law_816 : decode cL_law 816 = .ok (.invokevirtual 98, 3) := by decide +kernel
theorem dL_law_819 : decode cL_law 819 = .ok (.if_icmp .eq 366, 3) := by decide +kernel
theorem dL_law_822 : decode cL_law 822 = .ok (.iconst 0, 1) := by decide +kernel
theorem dL_law_823 : decode cL_law 823 = .ok (.ireturn, 1) := by decide +kernel
theorem dL_law_824 : decode cL_law 824 = .ok (.aload_n 1, 1) := by decide +kernel
theorem dL_law_825 : decode cL_law 825 = .ok (.invokevirtual 99, 3) := by decide +kernel
theorem dL_law_828 : decode cL_law 828 = .ok (.aload_n 2, 1) := by decide +kernel
theorem dL_law_829 : decode cL_law 829 = .ok (.invokevirtual 102, 3) := by decide +kernel
theorem dL_law_832 : decode cL_law 832 = .ok (.if_icmp .eq 353, 3) := by decide +kernel
theorem dL_law_835 : decode cL_law 835 = .ok (.iconst 0, 1) := by decide +kernel
theorem dL_law_836 : decode cL_law 836 = .ok (.ireturn, 1) := by decide +kernel
theorem dL_law_837 : decode cL_law 837 = .ok (.aload_n 1, 1) := by decide +kernel
theorem dL_law_838 : decode cL_law 838 = .ok (.aload_n 0, 1) := by decide +kernel
theorem dL_law_839 : decode cL_law 839 = .ok (.iload_n 3, 1) := by decide +kernel
theorem dL_law_840 : decode cL_law 840 = .ok (.iconst 1, 1) := by decide +kernel
theorem dL_law_841 : decode cL_law 841 = .ok (.iadd, 1) := by decide +kernel
theorem dL_law_842 : decode cL_law 842 = .ok (.iaload, 1) := by decide +kernel
theorem dL_law_843 : decode cL_law 843 = .ok (.aload_n 0, 1) := by decide +kernel
theorem dL_law_844 : decode cL_law 844 = .ok (.iload_n 3, 1) := by decide +kernel
theorem dL_law_845 : decode cL_law 845 = .ok (.iconst 2, 1) := by decide +kernel
theorem dL_law_846 : decode cL_law 846 = .ok (.iadd, 1) := by decide +kernel
theorem dL_law_847 : decode cL_law 847 = .ok (.iaload, 1) := by decide +kernel
theorem dL_law_848 : decode cL_law 848 = .ok (.aload_n 0, 1) := by decide +kernel
theorem dL_law_849 : decode cL_law 849 = .ok (.iload_n 3, 1) := by decide +kernel
theorem dL_law_850 : decode cL_law 850 = .ok (.iconst 3, 1) := by decide +kernel
theorem dL_law_851 : decode cL_law 851 = .ok (.iadd, 1) := by decide +kernel
theorem dL_law_852 : decode cL_law 852 = .ok (.iaload, 1) := by decide +kernel
theorem dL_law_853 : decode cL_law 853 = .ok (.invokevirtual 103, 3) := by decide +kernel
theorem dL_law_856 : decode cL_law 856 = .ok (.aload_n 2, 1) := by decide +kernel
theorem dL_law_857 : decode cL_law 857 = .ok (.aload_n 0, 1) := by decide +kernel
theorem dL_law_858 : decode cL_law 858 = .ok (.iload_n 3, 1) := by decide +kernel
theorem dL_law_859 : decode cL_law 859 = .ok (.iconst 1, 1) := by decide +kernel
theorem dL_law_860 : decode cL_law 860 = .ok (.iadd, 1) := by decide +kernel
theorem dL_law_861 : decode cL_law 861 = .ok (.iaload, 1) := by decide +kernel
theorem dL_law_862 : decode cL_law 862 = .ok (.aload_n 0, 1) := by decide +kernel
theorem dL_law_863 : decode cL_law 863 = .ok (.iload_n 3, 1) := by decide +kernel
theorem dL_law_864 : decode cL_law 864 = .ok (.iconst 2, 1) := by decide +kernel
theorem dL_law_865 : decode cL_law 865 = .ok (.iadd, 1) := by decide +kernel
theorem dL_law_866 : decode cL_law 866 = .ok (.iaload, 1) := by decide +kernel
theorem dL_law_867 : decode cL_law 867 = .ok (.aload_n 0, 1) := by decide +kernel
theorem dL_law_868 : decode cL_law 868 = .ok (.iload_n 3, 1) := by decide +kernel
theorem dL_law_869 : decode cL_law 869 = .ok (.iconst 3, 1) := by decide +kernel
theorem dL_law_870 : decode cL_law 870 = .ok (.iadd, 1) := by decide +kernel
theorem dL_law_871 : decode cL_law 871 = .ok (.iaload, 1) := by decide +kernel
theorem dL_law_872 : decode cL_law 872 = .ok (.invokevirtual 106, 3) := by decide +kernel
theorem dL_law_875 : decode cL_law 875 = .ok (.if_icmp .eq 310, 3) := by decide +kernel
theorem dL_law_878 : decode cL_law 878 = .ok (.iconst 0, 1) := by decide +kernel
theorem dL_law_879 : decode cL_law 879 = .ok (.ireturn, 1) := by decide +kernel
theorem dL_law_880 : decode cL_law 880 = .ok (.aload_n 1, 1) := by decide +kernel
theorem dL_law_881 : decode cL_law 881 = .ok (.invokevirtual 107, 3) := by decide +kernel
theorem dL_law_884 : decode cL_law 884 = .ok (.aload_n 2, 1) := by decide +kernel
theorem dL_law_885 : decode cL_law 885 = .ok (.invokevirtual 110, 3) := by decide +kernel
theorem dL_law_888 : decode cL_law 888 = .ok (.if_icmp .eq 297, 3) := by decide +kernel
theorem dL_law_891 : decode cL_law 891 = .ok (.iconst 0, 1) := by decide +kernel
theorem dL_law_892 : decode cL_law 892 = .ok (.ireturn, 1) := by decide +kernel
theorem dL_law_893 : decode cL_law 893 = .ok (.aload_n 1, 1) := by decide +kernel
theorem dL_law_894 : decode cL_law 894 = .ok (.aload_n 0, 1) := by decide +kernel
theorem dL_law_895 : decode cL_law 895 = .ok (.iload_n 3, 1) := by decide +kernel
theorem dL_law_896 : decode cL_law 896 = .ok (.iconst 1, 1) := by decide +kernel
theorem dL_law_897 : decode cL_law 897 = .ok (.iadd, 1) := by decide +kernel
theorem dL_law_898 : decode cL_law 898 = .ok (.iaload, 1) := by decide +kernel
theorem dL_law_899 : decode cL_law 899 = .ok (.invokevirtual 111, 3) := by decide +kernel
theorem dL_law_902 : decode cL_law 902 = .ok (.aload_n 2, 1) := by decide +kernel
theorem dL_law_903 : decode cL_law 903 = .ok (.aload_n 0, 1) := by decide +kernel
theorem dL_law_904 : decode cL_law 904 = .ok (.iload_n 3, 1) := by decide +kernel
theorem dL_law_905 : decode cL_law 905 = .ok (.iconst 1, 1) := by decide +kernel
theorem dL_law_906 : decode cL_law 906 = .ok (.iadd, 1) := by decide +kernel
theorem dL_law_907 : decode cL_law 907 = .ok (.iaload, 1) := by decide +kernel
theorem dL_law_908 : decode cL_law 908 = .ok (.invokevirtual 114, 3) := by decide +kernel
theorem dL_law_911 : decode cL_law 911 = .ok (.if_icmp .eq 274, 3) := by decide +kernel
theorem dL_law_914 : decode cL_law 914 = .ok (.iconst 0, 1) := by decide +kernel
theorem dL_law_915 : decode cL_law 915 = .ok (.ireturn, 1) := by decide +kernel
theorem dL_law_916 : decode cL_law 916 = .ok (.aload_n 1, 1) := by decide +kernel
theorem dL_law_917 : decode cL_law 917 = .ok (.aload_n 0, 1) := by decide +kernel
theorem dL_law_918 : decode cL_law 918 = .ok (.iload_n 3, 1) := by decide +kernel
theorem dL_law_919 : decode cL_law 919 = .ok (.iconst 1, 1) := by decide +kernel
theorem dL_law_920 : decode cL_law 920 = .ok (.iadd, 1) := by decide +kernel
theorem dL_law_921 : decode cL_law 921 = .ok (.iaload, 1) := by decide +kernel
theorem dL_law_922 : decode cL_law 922 = .ok (.aload_n 0, 1) := by decide +kernel
theorem dL_law_923 : decode cL_law 923 = .ok (.iload_n 3, 1) := by decide +kernel
theorem dL_law_924 : decode cL_law 924 = .ok (.iconst 2, 1) := by decide +kernel
theorem dL_law_925 : decode cL_law 925 = .ok (.iadd, 1) := by decide +kernel
theorem dL_law_926 : decode cL_law 926 = .ok (.iaload, 1) := by decide +kernel
theorem dL_law_927 : decode cL_law 927 = .ok (.invokevirtual 115, 3) := by decide +kernel
theorem dL_law_930 : decode cL_law 930 = .ok (.aload_n 2, 1) := by decide +kernel
theorem dL_law_931 : decode cL_law 931 = .ok (.aload_n 0, 1) := by decide +kernel
theorem dL_law_932 : decode cL_law 932 = .ok (.iload_n 3, 1) := by decide +kernel
theorem dL_law_933 : decode cL_law 933 = .ok (.iconst 1, 1) := by decide +kernel
theorem dL_law_934 : decode cL_law 934 = .ok (.iadd, 1) := by decide +kernel
theorem dL_law_935 : decode cL_law 935 = .ok (.iaload, 1) := by decide +kernel
theorem dL_law_936 : decode cL_law 936 = .ok (.aload_n 0, 1) := by decide +kernel
theorem dL_law_937 : decode cL_law 937 = .ok (.iload_n 3, 1) := by decide +kernel
theorem dL_law_938 : decode cL_law 938 = .ok (.iconst 2, 1) := by decide +kernel
theorem dL_law_939 : decode cL_law 939 = .ok (.iadd, 1) := by decide +kernel
theorem dL_law_940 : decode cL_law 940 = .ok (.iaload, 1) := by decide +kernel
theorem dL_law_941 : decode cL_law 941 = .ok (.invokevirtual 118, 3) := by decide +kernel
theorem dL_law_944 : decode cL_law 944 = .ok (.if_icmp .eq 241, 3) := by decide +kernel
theorem dL_law_947 : decode cL_law 947 = .ok (.iconst 0, 1) := by decide +kernel
theorem dL_law_948 : decode cL_law 948 = .ok (.ireturn, 1) := by decide +kernel
theorem dL_law_949 : decode cL_law 949 = .ok (.aload_n 1, 1) := by decide +kernel
theorem dL_law_950 : decode cL_law 950 = .ok (.aload_n 0, 1) := by decide +kernel
theorem dL_law_951 : decode cL_law 951 = .ok (.iload_n 3, 1) := by decide +kernel
theorem dL_law_952 : decode cL_law 952 = .ok (.iconst 1, 1) := by decide +kernel
theorem dL_law_953 : decode cL_law 953 = .ok (.iadd, 1) := by decide +kernel
theorem dL_law_954 : decode cL_law 954 = .ok (.iaload, 1) := by decide +kernel
theorem dL_law_955 : decode cL_law 955 = .ok (.invokevirtual 119, 3) := by decide +kernel
theorem dL_law_958 : decode cL_law 958 = .ok (.aload_n 2, 1) := by decide +kernel
theorem dL_law_959 : decode cL_law 959 = .ok (.aload_n 0, 1) := by decide +kernel
theorem dL_law_960 : decode cL_law 960 = .ok (.iload_n 3, 1) := by decide +kernel
theorem dL_law_961 : decode cL_law 961 = .ok (.iconst 1, 1) := by decide +kernel
theorem dL_law_962 : decode cL_law 962 = .ok (.iadd, 1) := by decide +kernel
theorem dL_law_963 : decode cL_law 963 = .ok (.iaload, 1) := by decide +kernel
theorem dL_law_964 : decode cL_law 964 = .ok (.invokevirtual 122, 3) := by decide +kernel
theorem dL_law_967 : decode cL_law 967 = .ok (.if_icmp .eq 218, 3) := by decide +kernel
theorem dL_law_970 : decode cL_law 970 = .ok (.iconst 0, 1) := by decide +kernel
theorem dL_law_971 : decode cL_law 971 = .ok (.ireturn, 1) := by decide +kernel
theorem dL_law_972 : decode cL_law 972 = .ok (.aload_n 1, 1) := by decide +kernel
theorem dL_law_973 : decode cL_law 973 = .ok (.aload_n 0, 1) := by decide +kernel
theorem dL_law_974 : decode cL_law 974 = .ok (.iload_n 3, 1) := by decide +kernel
theorem dL_law_975 : decode cL_law 975 = .ok (.iconst 1, 1) := by decide +kernel
theorem dL_law_976 : decode cL_law 976 = .ok (.iadd, 1) := by decide +kernel
theorem dL_law_977 : decode cL_law 977 = .ok (.iaload, 1) := by decide +kernel
theorem dL_law_978 : decode cL_law 978 = .ok (.invokevirtual 123, 3) := by decide +kernel
theorem dL_law_981 : decode cL_law 981 = .ok (.aload_n 2, 1) := by decide +kernel
theorem dL_law_982 : decode cL_law 982 = .ok (.aload_n 0, 1) := by decide +kernel
theorem dL_law_983 : decode cL_law 983 = .ok (.iload_n 3, 1) := by decide +kernel
theorem dL_law_984 : decode cL_law 984 = .ok (.iconst 1, 1) := by decide +kernel
theorem dL_law_985 : decode cL_law 985 = .ok (.iadd, 1) := by decide +kernel
theorem dL_law_986 : decode cL_law 986 = .ok (.iaload, 1) := by decide +kernel
theorem dL_law_987 : decode cL_law 987 = .ok (.invokevirtual 126, 3) := by decide +kernel
theorem dL_law_990 : decode cL_law 990 = .ok (.if_icmp .eq 195, 3) := by decide +kernel
theorem dL_law_993 : decode cL_law 993 = .ok (.iconst 0, 1) := by decide +kernel
theorem dL_law_994 : decode cL_law 994 = .ok (.ireturn, 1) := by decide +kernel
theorem dL_law_995 : decode cL_law 995 = .ok (.aload_n 1, 1) := by decide +kernel
theorem dL_law_996 : decode cL_law 996 = .ok (.invokevirtual 127, 3) := by decide +kernel
theorem dL_law_999 : decode cL_law 999 = .ok (.aload_n 2, 1) := by decide +kernel
theorem dL_law_1000 : decode cL_law 1000 = .ok (.invokevirtual 130, 3) := by decide +kernel
theorem dL_law_1003 : decode cL_law 1003 = .ok (.if_icmp .eq 182, 3) := by decide +kernel
theorem dL_law_1006 : decode cL_law 1006 = .ok (.iconst 0, 1) := by decide +kernel
theorem dL_law_1007 : decode cL_law 1007 = .ok (.ireturn, 1) := by decide +kernel
theorem dL_law_1008 : decode cL_law 1008 = .ok (.aload_n 1, 1) := by decide +kernel
theorem dL_law_1009 : decode cL_law 1009 = .ok (.invokevirtual 131, 3) := by decide +kernel
theorem dL_law_1012 : decode cL_law 1012 = .ok (.aload_n 2, 1) := by decide +kernel
theorem dL_law_1013 : decode cL_law 1013 = .ok (.invokevirtual 134, 3) := by decide +kernel
theorem dL_law_1016 : decode cL_law 1016 = .ok (.if_icmp .eq 169, 3) := by decide +kernel
theorem dL_law_1019 : decode cL_law 1019 = .ok (.iconst 0, 1) := by decide +kernel
theorem dL_law_1020 : decode cL_law 1020 = .ok (.ireturn, 1) := by decide +kernel
theorem dL_law_1021 : decode cL_law 1021 = .ok (.aload_n 1, 1) := by decide +kernel
theorem dL_law_1022 : decode cL_law 1022 = .ok (.aload_n 0, 1) := by decide +kernel
theorem dL_law_1023 : decode cL_law 1023 = .ok (.iload_n 3, 1) := by decide +kernel
theorem dL_law_1024 : decode cL_law 1024 = .ok (.iconst 1, 1) := by decide +kernel
theorem dL_law_1025 : decode cL_law 1025 = .ok (.iadd, 1) := by decide +kernel
theorem dL_law_1026 : decode cL_law 1026 = .ok (.iaload, 1) := by decide +kernel
theorem dL_law_1027 : decode cL_law 1027 = .ok (.ifCond .eq 7, 3) := by decide +kernel
theorem dL_law_1030 : decode cL_law 1030 = .ok (.iconst 1, 1) := by decide +kernel
theorem dL_law_1031 : decode cL_law 1031 = .ok (.goto 4, 3) := by decide +kernel
theorem dL_law_1034 : decode cL_law 1034 = .ok (.iconst 0, 1) := by decide +kernel
theorem dL_law_1035 : decode cL_law 1035 = .ok (.invokevirtual 135, 3) := by decide +kernel
theorem dL_law_1038 : decode cL_law 1038 = .ok (.aload_n 2, 1) := by decide +kernel
theorem dL_law_1039 : decode cL_law 1039 = .ok (.aload_n 0, 1) := by decide +kernel
theorem dL_law_1040 : decode cL_law 1040 = .ok (.iload_n 3, 1) := by decide +kernel
theorem dL_law_1041 : decode cL_law 1041 = .ok (.iconst 1, 1) := by decide +kernel
theorem dL_law_1042 : decode cL_law 1042 = .ok (.iadd, 1) := by decide +kernel
theorem dL_law_1043 : decode cL_law 1043 = .ok (.iaload, 1) := by decide +kernel
theorem dL_law_1044 : decode cL_law 1044 = .ok (.ifCond .eq 7, 3) := by decide +kernel
theorem dL_law_1047 : decode cL_law 1047 = .ok (.iconst 1, 1) := by decide +kernel
theorem dL_law_1048 : decode cL_law 1048 = .ok (.goto 4, 3) := by decide +kernel
theorem dL_law_1051 : decode cL_law 1051 = .ok (.iconst 0, 1) := by decide +kernel
theorem dL_law_1052 : decode cL_law 1052 = .ok (.invokevirtual 139, 3) := by decide +kernel
theorem dL_law_1055 : decode cL_law 1055 = .ok (.if_icmp .eq 130, 3) := by decide +kernel
theorem dL_law_1058 : decode cL_law 1058 = .ok (.iconst 0, 1) := by decide +kernel
theorem dL_law_1059 : decode cL_law 1059 = .ok (.ireturn, 1) := by decide +kernel
theorem dL_law_1060 : decode cL_law 1060 = .ok (.aload_n 1, 1) := by decide +kernel
theorem dL_law_1061 : decode cL_law 1061 = .ok (.aload_n 0, 1) := by decide +kernel
theorem dL_law_1062 : decode cL_law 1062 = .ok (.iload_n 3, 1) := by decide +kernel
theorem dL_law_1063 : decode cL_law 1063 = .ok (.iconst 1, 1) := by decide +kernel
theorem dL_law_1064 : decode cL_law 1064 = .ok (.iadd, 1) := by decide +kernel
theorem dL_law_1065 : decode cL_law 1065 = .ok (.iaload, 1) := by decide +kernel
theorem dL_law_1066 : decode cL_law 1066 = .ok (.ifCond .eq 7, 3) := by decide +kernel
theorem dL_law_1069 : decode cL_law 1069 = .ok (.iconst 1, 1) := by decide +kernel
theorem dL_law_1070 : decode cL_law 1070 = .ok (.goto 4, 3) := by decide +kernel
theorem dL_law_1073 : decode cL_law 1073 = .ok (.iconst 0, 1) := by decide +kernel
theorem dL_law_1074 : decode cL_law 1074 = .ok (.invokevirtual 140, 3) := by decide +kernel
theorem dL_law_1077 : decode cL_law 1077 = .ok (.aload_n 2, 1) := by decide +kernel
theorem dL_law_1078 : decode cL_law 1078 = .ok (.aload_n 0, 1) := by decide +kernel
theorem dL_law_1079 : decode cL_law 1079 = .ok (.iload_n 3, 1) := by decide +kernel
theorem dL_law_1080 : decode cL_law 1080 = .ok (.iconst 1, 1) := by decide +kernel
theorem dL_law_1081 : decode cL_law 1081 = .ok (.iadd, 1) := by decide +kernel
theorem dL_law_1082 : decode cL_law 1082 = .ok (.iaload, 1) := by decide +kernel
theorem dL_law_1083 : decode cL_law 1083 = .ok (.ifCond .eq 7, 3) := by decide +kernel
theorem dL_law_1086 : decode cL_law 1086 = .ok (.iconst 1, 1) := by decide +kernel
theorem dL_law_1087 : decode cL_law 1087 = .ok (.goto 4, 3) := by decide +kernel
theorem dL_law_1090 : decode cL_law 1090 = .ok (.iconst 0, 1) := by decide +kernel
theorem dL_law_1091 : decode cL_law 1091 = .ok (.invokevirtual 143, 3) := by decide +kernel
theorem dL_law_1094 : decode cL_law 1094 = .ok (.if_icmp .eq 91, 3) := by decide +kernel
theorem dL_law_1097 : decode cL_law 1097 = .ok (.iconst 0, 1) := by decide +kernel
theorem dL_law_1098 : decode cL_law 1098 = .ok (.ireturn, 1) := by decide +kernel
theorem dL_law_1099 : decode cL_law 1099 = .ok (.aload_n 1, 1) := by decide +kernel
theorem dL_law_1100 : decode cL_law 1100 = .ok (.invokevirtual 144, 3) := by decide +kernel
theorem dL_law_1103 : decode cL_law 1103 = .ok (.aload_n 2, 1) := by decide +kernel
theorem dL_law_1104 : decode cL_law 1104 = .ok (.invokevirtual 147, 3) := by decide +kernel
theorem dL_law_1107 : decode cL_law 1107 = .ok (.if_icmp .eq 78, 3) := by decide +kernel
theorem dL_law_1110 : decode cL_law 1110 = .ok (.iconst 0, 1) := by decide +kernel
theorem dL_law_1111 : decode cL_law 1111 = .ok (.ireturn, 1) := by decide +kernel
theorem dL_law_1112 : decode cL_law 1112 = .ok (.aload_n 1, 1) := by decide +kernel
theorem dL_law_1113 : decode cL_law 1113 = .ok (.aload_n 0, 1) := by decide +kernel
theorem dL_law_1114 : decode cL_law 1114 = .ok (.iload_n 3, 1) := by decide +kernel
theorem dL_law_1115 : decode cL_law 1115 = .ok (.iconst 1, 1) := by decide +kernel
theorem dL_law_1116 : decode cL_law 1116 = .ok (.iadd, 1) := by decide +kernel
theorem dL_law_1117 : decode cL_law 1117 = .ok (.iaload, 1) := by decide +kernel
theorem dL_law_1118 : decode cL_law 1118 = .ok (.invokevirtual 148, 3) := by decide +kernel
theorem dL_law_1121 : decode cL_law 1121 = .ok (.aload_n 2, 1) := by decide +kernel
theorem dL_law_1122 : decode cL_law 1122 = .ok (.aload_n 0, 1) := by decide +kernel
theorem dL_law_1123 : decode cL_law 1123 = .ok (.iload_n 3, 1) := by decide +kernel
theorem dL_law_1124 : decode cL_law 1124 = .ok (.iconst 1, 1) := by decide +kernel
theorem dL_law_1125 : decode cL_law 1125 = .ok (.iadd, 1) := by decide +kernel
theorem dL_law_1126 : decode cL_law 1126 = .ok (.iaload, 1) := by decide +kernel
theorem dL_law_1127 : decode cL_law 1127 = .ok (.invokevirtual 151, 3) := by decide +kernel
theorem dL_law_1130 : decode cL_law 1130 = .ok (.if_icmp .eq 55, 3) := by decide +kernel
theorem dL_law_1133 : decode cL_law 1133 = .ok (.iconst 0, 1) := by decide +kernel
theorem dL_law_1134 : decode cL_law 1134 = .ok (.ireturn, 1) := by decide +kernel
theorem dL_law_1135 : decode cL_law 1135 = .ok (.aload_n 1, 1) := by decide +kernel
theorem dL_law_1136 : decode cL_law 1136 = .ok (.invokevirtual 152, 3) := by decide +kernel
theorem dL_law_1139 : decode cL_law 1139 = .ok (.aload_n 2, 1) := by decide +kernel
theorem dL_law_1140 : decode cL_law 1140 = .ok (.invokevirtual 155, 3) := by decide +kernel
theorem dL_law_1143 : decode cL_law 1143 = .ok (.if_icmp .eq 42, 3) := by decide +kernel
theorem dL_law_1146 : decode cL_law 1146 = .ok (.iconst 0, 1) := by decide +kernel
theorem dL_law_1147 : decode cL_law 1147 = .ok (.ireturn, 1) := by decide +kernel
theorem dL_law_1148 : decode cL_law 1148 = .ok (.aload_n 1, 1) := by decide +kernel
theorem dL_law_1149 : decode cL_law 1149 = .ok (.aload_n 0, 1) := by decide +kernel
theorem dL_law_1150 : decode cL_law 1150 = .ok (.iload_n 3, 1) := by decide +kernel
theorem dL_law_1151 : decode cL_law 1151 = .ok (.iconst 1, 1) := by decide +kernel
theorem dL_law_1152 : decode cL_law 1152 = .ok (.iadd, 1) := by decide +kernel
theorem dL_law_1153 : decode cL_law 1153 = .ok (.iaload, 1) := by decide +kernel
theorem dL_law_1154 : decode cL_law 1154 = .ok (.invokevirtual 156, 3) := by decide +kernel
theorem dL_law_1157 : decode cL_law 1157 = .ok (.aload_n 2, 1) := by decide +kernel
theorem dL_law_1158 : decode cL_law 1158 = .ok (.aload_n 0, 1) := by decide +kernel
theorem dL_law_1159 : decode cL_law 1159 = .ok (.iload_n 3, 1) := by decide +kernel
theorem dL_law_1160 : decode cL_law 1160 = .ok (.iconst 1, 1) := by decide +kernel
theorem dL_law_1161 : decode cL_law 1161 = .ok (.iadd, 1) := by decide +kernel
theorem dL_law_1162 : decode cL_law 1162 = .ok (.iaload, 1) := by decide +kernel
theorem dL_law_1163 : decode cL_law 1163 = .ok (.invokevirtual 159, 3) := by decide +kernel
theorem dL_law_1166 : decode cL_law 1166 = .ok (.if_icmp .eq 19, 3) := by decide +kernel
theorem dL_law_1169 : decode cL_law 1169 = .ok (.iconst 0, 1) := by decide +kernel
theorem dL_law_1170 : decode cL_law 1170 = .ok (.ireturn, 1) := by decide +kernel
theorem dL_law_1171 : decode cL_law 1171 = .ok (.aload_n 1, 1) := by decide +kernel
theorem dL_law_1172 : decode cL_law 1172 = .ok (.invokevirtual 160, 3) := by decide +kernel
theorem dL_law_1175 : decode cL_law 1175 = .ok (.aload_n 2, 1) := by decide +kernel
theorem dL_law_1176 : decode cL_law 1176 = .ok (.invokevirtual 164, 3) := by decide +kernel
theorem dL_law_1179 : decode cL_law 1179 = .ok (.lcmp, 1) := by decide +kernel
theorem dL_law_1180 : decode cL_law 1180 = .ok (.ifCond .eq 5, 3) := by decide +kernel
theorem dL_law_1183 : decode cL_law 1183 = .ok (.iconst 0, 1) := by decide +kernel
theorem dL_law_1184 : decode cL_law 1184 = .ok (.ireturn, 1) := by decide +kernel
theorem dL_law_1185 : decode cL_law 1185 = .ok (.iinc 3 6, 3) := by decide +kernel
theorem dL_law_1188 : decode cL_law 1188 = .ok (.goto (-1170), 3) := by decide +kernel
theorem dL_law_1191 : decode cL_law 1191 = .ok (.iconst 1, 1) := by decide +kernel
theorem dL_law_1192 : decode cL_law 1192 = .ok (.ireturn, 1) := by decide +kernel
end
section
/-- a state: rows of numbers; a field is place 0 of its row -/
abbrev St : Type := Nat → Nat → Int32
def sr (X : St) (a : Nat) (f : Nat → Int32) : St := fun i => if i = a then f else X i
def ux (X : St) (a k : Nat) (v : Int32) : St := sr X a (upd (X a) k v)
theorem sr_s (X : St) (a : Nat) (f : Nat → Int32) : sr X a f a = f := if_pos rfl
theorem sr_n (X : St) {a b : Nat} (f : Nat → Int32) (h : b ≠ a) : sr X a f b = X b := if_neg h
theorem sr_sr (X : St) (a : Nat) (f g : Nat → Int32) : sr (sr X a f) a g = sr X a g := by
  funext i
  by_cases h : i = a <;> simp [sr, h]
theorem sr_self (X : St) (a : Nat) : sr X a (X a) = X := by
  funext i
  by_cases h : i = a
  · subst h; simp [sr]
  · simp [sr, h]
theorem sr_comm (X : St) {a b : Nat} (f g : Nat → Int32) (h : a ≠ b) : sr (sr X a f) b g = sr (sr X b g) a f := by
  funext i
  by_cases h1 : i = a
  · subst h1
    simp [sr, h]
  · by_cases h2 : i = b <;> simp [sr, h1, h2]
    intro h3
    exact absurd (h2.trans h3) h1
abbrev ix (i : Int32) : Nat := i.toNatClampNeg
def rL (d : Nat) : Room := { frames := d, cells := 0, slots := 0, locals := 40 * d }
abbrev Cx : Type := Program × Launch × Env × Room × State × MethodId × Array Value × List Frame × Method × Code × (State → Prop) × va_G × (Nat → Prop)
def WX (K : Cx) (wf : St → va_W) (nL : Nat) (X : St) (pc : Nat) (lv : List (Nat × Value)) (st : List Value) : Prop := match K with
  | (p, l, e, R, s, m, args, below, meth, c, Q, D, A) => ∀ (H : Heap) (locs : List Loc) (ls : Array Slot), va_P D vwCl (wf X) H → va_S A s.heap H locs → lv_has ls nL lv → W p l e R s m args below meth c H locs 0 0 Q (F0 m pc ls st)
def XC (K : Cx) (wf : St → va_W) (nL : Nat) (cc : ByteArray) (own : String) (d : Nat) (tys : List (ClassId × FieldType)) : Prop := match K with
  | (p, l, e, R, s, m, args, below, meth, c, Q, D, A) => p.tables.exec = Jvm.exec ∧ c.code = cc ∧ c.maxLocals = nL ∧ s.vm.findClass own = some m.cls ∧ (∀ w ∈ tA, w.before args s = true) ∧ R = rL d ∧ va_K D vwCl tys s ∧ (∀ X, va_D A (wf X)) ∧ (∀ q, s.heap.size ≤ q → A q)
/-- the addresses of a world don't hang on its state -/
def wfA (wf : St → va_W) : Prop := ∀ X Y : St, (wf X).map Prod.fst = (wf Y).map Prod.fst
theorem adr_get {w1 w2 : va_W} (h : w1.map Prod.fst = w2.map Prod.fst) {k : Nat} {q : Nat × va_E} (hq : w1[k]? = some q) : ∃ e, w2[k]? = some (q.1, e) := by
  have h1 : (w1.map Prod.fst)[k]? = some q.1 := by rw [List.getElem?_map, hq]; rfl
  rw [h, List.getElem?_map] at h1
  cases h2 : w2[k]? with
  | none => rw [h2] at h1; cases h1
  | some x =>
    rw [h2] at h1
    have h3 : x.1 = q.1 := Option.some.inj h1
    exact ⟨x.2, by rw [← h3]⟩
theorem va_D.adr {A : Nat → Prop} {w1 w2 : va_W} (h : w1.map Prod.fst = w2.map Prod.fst) (hD : va_D A w1) : va_D A w2 := by
  refine ⟨fun i j p q hi hj hpq => ?_, fun k q hq => ?_⟩
  · obtain ⟨e1, h1⟩ := adr_get h.symm hi
    obtain ⟨e2, h2⟩ := adr_get h.symm hj
    exact hD.1 i j _ _ h1 h2 hpq
  · obtain ⟨e, h1⟩ := adr_get h.symm hq
    exact hD.2 k (q.1, e) h1
theorem lw_gd {w : Cond} (h : w ∈ tA) : (w.onTables && w.keeps) = true ∨ ∃ ty, w = .arrayClass ty := good_of_word (tA_gd h)
theorem lw_gi {ws : List Cond} (h : ∀ w ∈ ws, w ∈ tA) : GoodIn tA ws := fun w hw => ⟨h w hw, lw_gd (h w hw)⟩
/-- contracts over a world -/
def PcX (avs : List Value) (wf : St → va_W) (D : va_G) (tys : List (ClassId × FieldType)) (X : St) (sz : Nat) : Array Value → State → Prop := va_Pc avs (fun U => U.heap.size = sz ∧ va_P D vwCl (wf X) U.heap ∧ va_K D vwCl tys U ∧ va_D (fun _ => True) (wf X))
def Ci (l : Launch) (y : MethodName) (cc : ByteArray) (nL : Nat) (ret : Option FieldType) (d : Nat) (wf : St → va_W) (D : va_G) (tys : List (ClassId × FieldType)) (avs : List Value) (X : St) (post : Int32 → St → Prop) : Prop := ∀ sz : Nat, Met l y (.code y cc nL ret :: tA) (rL d) (PcX avs wf D tys X sz) (va_Qi post (fun u t => va_P D vwCl (wf u) t.heap) (va_A (wf X) sz)) 0 0 (va_A (wf X) sz)
def Cl (l : Launch) (y : MethodName) (cc : ByteArray) (nL : Nat) (ret : Option FieldType) (d : Nat) (wf : St → va_W) (D : va_G) (tys : List (ClassId × FieldType)) (avs : List Value) (X : St) (post : Int64 → St → Prop) : Prop := ∀ sz : Nat, Met l y (.code y cc nL ret :: tA) (rL d) (PcX avs wf D tys X sz) (va_Ql post (fun u t => va_P D vwCl (wf u) t.heap) (va_A (wf X) sz)) 0 0 (va_A (wf X) sz)
def Cv (l : Launch) (y : MethodName) (cc : ByteArray) (nL : Nat) (ret : Option FieldType) (d : Nat) (wf : St → va_W) (D : va_G) (tys : List (ClassId × FieldType)) (avs : List Value) (X : St) (post : St → Prop) : Prop := ∀ sz : Nat, Met l y (.code y cc nL ret :: tA) (rL d) (PcX avs wf D tys X sz) (va_Qv post (fun u t => va_P D vwCl (wf u) t.heap) (va_A (wf X) sz)) 0 0 (va_A (wf X) sz)
theorem PcX_blind {avs : List Value} {wf : St → va_W} {D : va_G} {tys : List (ClassId × FieldType)} {X : St} {sz : Nat} : FrameBlind (PcX avs wf D tys X sz) := fun a U g mk q => by
  obtain ⟨q0, q1, qP, qK, qD⟩ := q
  exact ⟨q0, q1, qP, va_K.moved (u := U) (U := U.calling g mk a) (Vm.Alike.refl U.vm) qK, qD⟩
section XR
variable {K : Cx} {wf : St → va_W} {nL : Nat} {cc : ByteArray} {own : String} {d : Nat} {tys : List (ClassId × FieldType)} {X : St} {pc : Nat} {lv : List (Nat × Value)} {rest : List Value}
theorem x_iconst (C : XC K wf nL cc own d tys) {n : Int} {v : Int32} (hd : decode cc pc = .ok (.iconst n, 1)) (hv : Int32.ofInt n = v) (k : WX K wf nL X (pc + 1) lv (.int v :: rest)) : WX K wf nL X pc lv (rest) := by
  obtain ⟨p, l, e, R, s, m, args, below, meth, c, Q, D, A⟩ := K
  exact fun H locs ls hP hS hl => lv_iconst C.1 C.2.1 hd hv (k H locs ls hP hS hl)
theorem x_bipush (C : XC K wf nL cc own d tys) {n : Int} {v : Int32} (hd : decode cc pc = .ok (.bipush n, 2)) (hv : (Int8.ofInt n).toInt32 = v) (k : WX K wf nL X (pc + 2) lv (.int v :: rest)) : WX K wf nL X pc lv (rest) := by
  obtain ⟨p, l, e, R, s, m, args, below, meth, c, Q, D, A⟩ := K
  exact fun H locs ls hP hS hl => lv_bipush C.1 C.2.1 hd hv (k H locs ls hP hS hl)
theorem x_sipush (C : XC K wf nL cc own d tys) {n : Int} {v : Int32} (hd : decode cc pc = .ok (.sipush n, 3)) (hv : (Int16.ofInt n).toInt32 = v) (k : WX K wf nL X (pc + 3) lv (.int v :: rest)) : WX K wf nL X pc lv (rest) := by
  obtain ⟨p, l, e, R, s, m, args, below, meth, c, Q, D, A⟩ := K
  exact fun H locs ls hP hS hl => lv_sipush C.1 C.2.1 hd hv (k H locs ls hP hS hl)
theorem x_lconst (C : XC K wf nL cc own d tys) {n : Fin 2} {v : Int64} (hd : decode cc pc = .ok (.lconst n, 1)) (hv : Int64.ofNat (n : Nat) = v) (k : WX K wf nL X (pc + 1) lv (.long v :: rest)) : WX K wf nL X pc lv (rest) := by
  obtain ⟨p, l, e, R, s, m, args, below, meth, c, Q, D, A⟩ := K
  exact fun H locs ls hP hS hl => lv_lconst C.1 C.2.1 hd hv (k H locs ls hP hS hl)
theorem x_ldc (C : XC K wf nL cc own d tys) {index : Nat} {v : Int32} (hd : decode cc pc = .ok (.ldc index, 2)) (hc : Cond.constant own index v ∈ tA) (k : WX K wf nL X (pc + 2) lv (.int v :: rest)) : WX K wf nL X pc lv rest := by
  obtain ⟨p, l, e, R, s, m, args, below, meth, c, Q, D, A⟩ := K
  exact fun H locs ls hP hS hl => lv_ldc C.1 C.2.1 C.2.2.2.1 (C.2.2.2.2.1 _ hc) hd (k H locs ls hP hS hl)
theorem x_ldc2 (C : XC K wf nL cc own d tys) {index : Nat} {v : Int64} (hd : decode cc pc = .ok (.ldc2_w index, 3)) (hc : Cond.constantLong own index v ∈ tA) (k : WX K wf nL X (pc + 3) lv (.long v :: rest)) : WX K wf nL X pc lv rest := by
  obtain ⟨p, l, e, R, s, m, args, below, meth, c, Q, D, A⟩ := K
  exact fun H locs ls hP hS hl => lv_ldc2 C.1 C.2.1 C.2.2.2.1 (C.2.2.2.2.1 _ hc) hd (k H locs ls hP hS hl)
theorem x_iload_n (C : XC K wf nL cc own d tys) {k : Fin 4} {i : Nat} {x : Int32} (hd : decode cc pc = .ok (.iload_n k, 1)) (q : Nat) (hi : (k : Nat) = i) (hq : lv[q]? = some (i, .int x)) (kk : WX K wf nL X (pc + 1) lv (.int x :: rest)) : WX K wf nL X pc lv rest := by
  obtain ⟨p, l, e, R, s, m, args, below, meth, c, Q, D, A⟩ := K
  exact fun H locs ls hP hS hl => lv_iload_n C.1 C.2.1 hd hi (lv_at hl q hq) (kk H locs ls hP hS hl)
theorem x_iload (C : XC K wf nL cc own d tys) {i : Nat} {x : Int32} (hd : decode cc pc = .ok (.iload i, 2)) (q : Nat) (hq : lv[q]? = some (i, .int x)) (kk : WX K wf nL X (pc + 2) lv (.int x :: rest)) : WX K wf nL X pc lv rest := by
  obtain ⟨p, l, e, R, s, m, args, below, meth, c, Q, D, A⟩ := K
  exact fun H locs ls hP hS hl => lv_iload C.1 C.2.1 hd (lv_at hl q hq) (kk H locs ls hP hS hl)
theorem x_lload_n (C : XC K wf nL cc own d tys) {k : Fin 4} {i : Nat} {x : Int64} (hd : decode cc pc = .ok (.lload_n k, 1)) (q : Nat) (hi : (k : Nat) = i) (hq : lv[q]? = some (i, .long x)) (kk : WX K wf nL X (pc + 1) lv (.long x :: rest)) : WX K wf nL X pc lv rest := by
  obtain ⟨p, l, e, R, s, m, args, below, meth, c, Q, D, A⟩ := K
  exact fun H locs ls hP hS hl => lv_lload_n C.1 C.2.1 hd hi (lv_at hl q hq) (kk H locs ls hP hS hl)
theorem x_lload (C : XC K wf nL cc own d tys) {i : Nat} {x : Int64} (hd : decode cc pc = .ok (.lload i, 2)) (q : Nat) (hq : lv[q]? = some (i, .long x)) (kk : WX K wf nL X (pc + 2) lv (.long x :: rest)) : WX K wf nL X pc lv rest := by
  obtain ⟨p, l, e, R, s, m, args, below, meth, c, Q, D, A⟩ := K
  exact fun H locs ls hP hS hl => lv_lload C.1 C.2.1 hd (lv_at hl q hq) (kk H locs ls hP hS hl)
theorem x_aload_n (C : XC K wf nL cc own d tys) {k : Fin 4} {i : Nat} {x : Nat} (hd : decode cc pc = .ok (.aload_n k, 1)) (q : Nat) (hi : (k : Nat) = i) (hq : lv[q]? = some (i, .ref x)) (kk : WX K wf nL X (pc + 1) lv (.ref x :: rest)) : WX K wf nL X pc lv rest := by
  obtain ⟨p, l, e, R, s, m, args, below, meth, c, Q, D, A⟩ := K
  exact fun H locs ls hP hS hl => lv_aload_n C.1 C.2.1 hd hi (lv_at hl q hq) (kk H locs ls hP hS hl)
theorem x_aload (C : XC K wf nL cc own d tys) {i : Nat} {x : Nat} (hd : decode cc pc = .ok (.aload i, 2)) (q : Nat) (hq : lv[q]? = some (i, .ref x)) (kk : WX K wf nL X (pc + 2) lv (.ref x :: rest)) : WX K wf nL X pc lv rest := by
  obtain ⟨p, l, e, R, s, m, args, below, meth, c, Q, D, A⟩ := K
  exact fun H locs ls hP hS hl => lv_aload C.1 C.2.1 hd (lv_at hl q hq) (kk H locs ls hP hS hl)
theorem x_istore_n (C : XC K wf nL cc own d tys) {k : Fin 4} {i : Nat} {x : Int32} (hd : decode cc pc = .ok (.istore_n k, 1)) (lv1 : List (Nat × Value)) (ks : List Nat) (hi : (k : Nat) = i) (hn : i < nL) (hl1 : lv_pick ((i, Value.int x) :: lv.filter (fun q => !(q.1 == i) && !(q.1 + 1 == i && q.2.category == 2))) ks = lv1) (kk : WX K wf nL X (pc + 1) lv1 rest) : WX K wf nL X pc lv (.int x :: rest) := by
  obtain ⟨p, l, e, R, s, m, args, below, meth, c, Q, D, A⟩ := K
  exact fun H locs ls hP hS hl => lv_istore_n C.1 C.2.1 hd hi hl hn rfl (fun ls1 h1 => kk H locs ls1 hP hS (lv_sub h1 ks hl1))
theorem x_istore (C : XC K wf nL cc own d tys) {i : Nat} {x : Int32} (hd : decode cc pc = .ok (.istore i, 2)) (lv1 : List (Nat × Value)) (ks : List Nat) (hn : i < nL) (hl1 : lv_pick ((i, Value.int x) :: lv.filter (fun q => !(q.1 == i) && !(q.1 + 1 == i && q.2.category == 2))) ks = lv1) (kk : WX K wf nL X (pc + 2) lv1 rest) : WX K wf nL X pc lv (.int x :: rest) := by
  obtain ⟨p, l, e, R, s, m, args, below, meth, c, Q, D, A⟩ := K
  exact fun H locs ls hP hS hl => lv_istore C.1 C.2.1 hd hl hn rfl (fun ls1 h1 => kk H locs ls1 hP hS (lv_sub h1 ks hl1))
theorem x_lstore_n (C : XC K wf nL cc own d tys) {k : Fin 4} {i : Nat} {x : Int64} (hd : decode cc pc = .ok (.lstore_n k, 1)) (lv1 : List (Nat × Value)) (ks : List Nat) (hi : (k : Nat) = i) (hn : i + 1 < nL) (hl1 : lv_pick ((i, Value.long x) :: lv.filter (fun q => !(q.1 == i) && (!(q.1 == i + 1) && !(q.1 + 1 == i && q.2.category == 2)))) ks = lv1) (kk : WX K wf nL X (pc + 1) lv1 rest) : WX K wf nL X pc lv (.long x :: rest) := by
  obtain ⟨p, l, e, R, s, m, args, below, meth, c, Q, D, A⟩ := K
  exact fun H locs ls hP hS hl => lv_lstore_n C.1 C.2.1 hd hi hl hn rfl (fun ls1 h1 => kk H locs ls1 hP hS (lv_sub h1 ks hl1))
theorem x_lstore (C : XC K wf nL cc own d tys) {i : Nat} {x : Int64} (hd : decode cc pc = .ok (.lstore i, 2)) (lv1 : List (Nat × Value)) (ks : List Nat) (hn : i + 1 < nL) (hl1 : lv_pick ((i, Value.long x) :: lv.filter (fun q => !(q.1 == i) && (!(q.1 == i + 1) && !(q.1 + 1 == i && q.2.category == 2)))) ks = lv1) (kk : WX K wf nL X (pc + 2) lv1 rest) : WX K wf nL X pc lv (.long x :: rest) := by
  obtain ⟨p, l, e, R, s, m, args, below, meth, c, Q, D, A⟩ := K
  exact fun H locs ls hP hS hl => lv_lstore C.1 C.2.1 hd hl hn rfl (fun ls1 h1 => kk H locs ls1 hP hS (lv_sub h1 ks hl1))
theorem x_astore_n (C : XC K wf nL cc own d tys) {k : Fin 4} {i : Nat} {x : Nat} (hd : decode cc pc = .ok (.astore_n k, 1)) (lv1 : List (Nat × Value)) (ks : List Nat) (hi : (k : Nat) = i) (hn : i < nL) (hl1 : lv_pick ((i, Value.ref x) :: lv.filter (fun q => !(q.1 == i) && !(q.1 + 1 == i && q.2.category == 2))) ks = lv1) (kk : WX K wf nL X (pc + 1) lv1 rest) : WX K wf nL X pc lv (.ref x :: rest) := by
  obtain ⟨p, l, e, R, s, m, args, below, meth, c, Q, D, A⟩ := K
  exact fun H locs ls hP hS hl => lv_astore_n C.1 C.2.1 hd hi hl hn rfl (fun ls1 h1 => kk H locs ls1 hP hS (lv_sub h1 ks hl1))
theorem x_astore (C : XC K wf nL cc own d tys) {i : Nat} {x : Nat} (hd : decode cc pc = .ok (.astore i, 2)) (lv1 : List (Nat × Value)) (ks : List Nat) (hn : i < nL) (hl1 : lv_pick ((i, Value.ref x) :: lv.filter (fun q => !(q.1 == i) && !(q.1 + 1 == i && q.2.category == 2))) ks = lv1) (kk : WX K wf nL X (pc + 2) lv1 rest) : WX K wf nL X pc lv (.ref x :: rest) := by
  obtain ⟨p, l, e, R, s, m, args, below, meth, c, Q, D, A⟩ := K
  exact fun H locs ls hP hS hl => lv_astore C.1 C.2.1 hd hl hn rfl (fun ls1 h1 => kk H locs ls1 hP hS (lv_sub h1 ks hl1))
theorem x_iinc (C : XC K wf nL cc own d tys) {i : Nat} {n : Int} {x v : Int32} (hd : decode cc pc = .ok (.iinc i n, 3)) (q : Nat) (lv1 : List (Nat × Value)) (ks : List Nat) (hq : lv[q]? = some (i, .int x)) (hv : x + Int32.ofInt n = v) (hn : i < nL) (hl1 : lv_pick ((i, Value.int v) :: lv.filter (fun q => !(q.1 == i) && !(q.1 + 1 == i && q.2.category == 2))) ks = lv1) (kk : WX K wf nL X (pc + 3) lv1 rest) : WX K wf nL X pc lv rest := by
  obtain ⟨p, l, e, R, s, m, args, below, meth, c, Q, D, A⟩ := K
  exact fun H locs ls hP hS hl => lv_iinc C.1 C.2.1 hd hl hq hv hn rfl (fun ls1 h1 => kk H locs ls1 hP hS (lv_sub h1 ks hl1))
theorem x_sub (lv1 : List (Nat × Value)) (ks : List Nat) (h : lv_pick lv ks = lv1) (k : WX K wf nL X pc lv1 rest) : WX K wf nL X pc lv rest := by
  obtain ⟨p, l, e, R, s, m, args, below, meth, c, Q, D, A⟩ := K
  exact fun H locs ls hP hS hl => k H locs ls hP hS (lv_sub hl ks h)
theorem x_iadd (C : XC K wf nL cc own d tys) {x y : Int32} (hd : decode cc pc = .ok (.iadd, 1))  (k : WX K wf nL X (pc + 1) lv (.int (x + y) :: rest)) : WX K wf nL X pc lv (.int y :: .int x :: rest) := by
  obtain ⟨p, l, e, R, s, m, args, below, meth, c, Q, D, A⟩ := K
  exact fun H locs ls hP hS hl => lv_iadd C.1 C.2.1 hd (k H locs ls hP hS hl)
theorem x_isub (C : XC K wf nL cc own d tys) {x y : Int32} (hd : decode cc pc = .ok (.isub, 1))  (k : WX K wf nL X (pc + 1) lv (.int (x - y) :: rest)) : WX K wf nL X pc lv (.int y :: .int x :: rest) := by
  obtain ⟨p, l, e, R, s, m, args, below, meth, c, Q, D, A⟩ := K
  exact fun H locs ls hP hS hl => lv_isub C.1 C.2.1 hd (k H locs ls hP hS hl)
theorem x_imul (C : XC K wf nL cc own d tys) {x y : Int32} (hd : decode cc pc = .ok (.imul, 1))  (k : WX K wf nL X (pc + 1) lv (.int (x * y) :: rest)) : WX K wf nL X pc lv (.int y :: .int x :: rest) := by
  obtain ⟨p, l, e, R, s, m, args, below, meth, c, Q, D, A⟩ := K
  exact fun H locs ls hP hS hl => lv_imul C.1 C.2.1 hd (k H locs ls hP hS hl)
theorem x_iand (C : XC K wf nL cc own d tys) {x y : Int32} (hd : decode cc pc = .ok (.iand, 1))  (k : WX K wf nL X (pc + 1) lv (.int (x &&& y) :: rest)) : WX K wf nL X pc lv (.int y :: .int x :: rest) := by
  obtain ⟨p, l, e, R, s, m, args, below, meth, c, Q, D, A⟩ := K
  exact fun H locs ls hP hS hl => lv_iand C.1 C.2.1 hd (k H locs ls hP hS hl)
theorem x_ior (C : XC K wf nL cc own d tys) {x y : Int32} (hd : decode cc pc = .ok (.ior, 1))  (k : WX K wf nL X (pc + 1) lv (.int (x ||| y) :: rest)) : WX K wf nL X pc lv (.int y :: .int x :: rest) := by
  obtain ⟨p, l, e, R, s, m, args, below, meth, c, Q, D, A⟩ := K
  exact fun H locs ls hP hS hl => lv_ior C.1 C.2.1 hd (k H locs ls hP hS hl)
theorem x_ixor (C : XC K wf nL cc own d tys) {x y : Int32} (hd : decode cc pc = .ok (.ixor, 1))  (k : WX K wf nL X (pc + 1) lv (.int (x ^^^ y) :: rest)) : WX K wf nL X pc lv (.int y :: .int x :: rest) := by
  obtain ⟨p, l, e, R, s, m, args, below, meth, c, Q, D, A⟩ := K
  exact fun H locs ls hP hS hl => lv_ixor C.1 C.2.1 hd (k H locs ls hP hS hl)
theorem x_ishl (C : XC K wf nL cc own d tys) {x y : Int32} (hd : decode cc pc = .ok (.ishl, 1))  (k : WX K wf nL X (pc + 1) lv (.int (x <<< (y &&& 31)) :: rest)) : WX K wf nL X pc lv (.int y :: .int x :: rest) := by
  obtain ⟨p, l, e, R, s, m, args, below, meth, c, Q, D, A⟩ := K
  exact fun H locs ls hP hS hl => lv_ishl C.1 C.2.1 hd (k H locs ls hP hS hl)
theorem x_ishr (C : XC K wf nL cc own d tys) {x y : Int32} (hd : decode cc pc = .ok (.ishr, 1))  (k : WX K wf nL X (pc + 1) lv (.int (x >>> (y &&& 31)) :: rest)) : WX K wf nL X pc lv (.int y :: .int x :: rest) := by
  obtain ⟨p, l, e, R, s, m, args, below, meth, c, Q, D, A⟩ := K
  exact fun H locs ls hP hS hl => lv_ishr C.1 C.2.1 hd (k H locs ls hP hS hl)
theorem x_idiv (C : XC K wf nL cc own d tys) {x y : Int32} (hd : decode cc pc = .ok (.idiv, 1)) (hne : ¬ y = 0) (k : WX K wf nL X (pc + 1) lv (.int (x / y) :: rest)) : WX K wf nL X pc lv (.int y :: .int x :: rest) := by
  obtain ⟨p, l, e, R, s, m, args, below, meth, c, Q, D, A⟩ := K
  exact fun H locs ls hP hS hl => lv_idiv C.1 C.2.1 hd hne (k H locs ls hP hS hl)
theorem x_ineg (C : XC K wf nL cc own d tys) {x : Int32} (hd : decode cc pc = .ok (.ineg, 1))  (k : WX K wf nL X (pc + 1) lv (.int (-x) :: rest)) : WX K wf nL X pc lv (.int x :: rest) := by
  obtain ⟨p, l, e, R, s, m, args, below, meth, c, Q, D, A⟩ := K
  exact fun H locs ls hP hS hl => lv_ineg C.1 C.2.1 hd (k H locs ls hP hS hl)
theorem x_ladd (C : XC K wf nL cc own d tys) {x y : Int64} (hd : decode cc pc = .ok (.ladd, 1))  (k : WX K wf nL X (pc + 1) lv (.long (x + y) :: rest)) : WX K wf nL X pc lv (.long y :: .long x :: rest) := by
  obtain ⟨p, l, e, R, s, m, args, below, meth, c, Q, D, A⟩ := K
  exact fun H locs ls hP hS hl => lv_ladd C.1 C.2.1 hd (k H locs ls hP hS hl)
theorem x_lsub (C : XC K wf nL cc own d tys) {x y : Int64} (hd : decode cc pc = .ok (.lsub, 1))  (k : WX K wf nL X (pc + 1) lv (.long (x - y) :: rest)) : WX K wf nL X pc lv (.long y :: .long x :: rest) := by
  obtain ⟨p, l, e, R, s, m, args, below, meth, c, Q, D, A⟩ := K
  exact fun H locs ls hP hS hl => lv_lsub C.1 C.2.1 hd (k H locs ls hP hS hl)
theorem x_lmul (C : XC K wf nL cc own d tys) {x y : Int64} (hd : decode cc pc = .ok (.lmul, 1))  (k : WX K wf nL X (pc + 1) lv (.long (x * y) :: rest)) : WX K wf nL X pc lv (.long y :: .long x :: rest) := by
  obtain ⟨p, l, e, R, s, m, args, below, meth, c, Q, D, A⟩ := K
  exact fun H locs ls hP hS hl => lv_lmul C.1 C.2.1 hd (k H locs ls hP hS hl)
theorem x_i2l (C : XC K wf nL cc own d tys) {x : Int32} (hd : decode cc pc = .ok (.i2l, 1))  (k : WX K wf nL X (pc + 1) lv (.long x.toInt64 :: rest)) : WX K wf nL X pc lv (.int x :: rest) := by
  obtain ⟨p, l, e, R, s, m, args, below, meth, c, Q, D, A⟩ := K
  exact fun H locs ls hP hS hl => lv_i2l C.1 C.2.1 hd rfl (k H locs ls hP hS hl)
theorem x_i2b (C : XC K wf nL cc own d tys) {x : Int32} (hd : decode cc pc = .ok (.i2b, 1))  (k : WX K wf nL X (pc + 1) lv (.int x.toInt8.toInt32 :: rest)) : WX K wf nL X pc lv (.int x :: rest) := by
  obtain ⟨p, l, e, R, s, m, args, below, meth, c, Q, D, A⟩ := K
  exact fun H locs ls hP hS hl => lv_i2b C.1 C.2.1 hd rfl (k H locs ls hP hS hl)
theorem x_lcmp (C : XC K wf nL cc own d tys) {x y : Int64} (hd : decode cc pc = .ok (.lcmp, 1))  (k : WX K wf nL X (pc + 1) lv (.int (lg_cmp x y) :: rest)) : WX K wf nL X pc lv (.long y :: .long x :: rest) := by
  obtain ⟨p, l, e, R, s, m, args, below, meth, c, Q, D, A⟩ := K
  exact fun H locs ls hP hS hl => W.lcmp C.1 C.2.1 hd (k H locs ls hP hS hl)
theorem x_dup (C : XC K wf nL cc own d tys) {va : Value} (hd : decode cc pc = .ok (.dup, 1)) (hv : va.category = 1) (k : WX K wf nL X (pc + 1) lv (va :: va :: rest)) : WX K wf nL X pc lv (va :: rest) := by
  obtain ⟨p, l, e, R, s, m, args, below, meth, c, Q, D, A⟩ := K
  exact fun H locs ls hP hS hl => lv_dup C.1 C.2.1 hd hv (k H locs ls hP hS hl)
theorem x_pop (C : XC K wf nL cc own d tys) {va : Value} (hd : decode cc pc = .ok (.pop, 1)) (hv : va.category = 1) (k : WX K wf nL X (pc + 1) lv (rest)) : WX K wf nL X pc lv (va :: rest) := by
  obtain ⟨p, l, e, R, s, m, args, below, meth, c, Q, D, A⟩ := K
  exact fun H locs ls hP hS hl => lv_pop C.1 C.2.1 hd hv (k H locs ls hP hS hl)
theorem x_dup2 (C : XC K wf nL cc own d tys) {va vb : Value} (hd : decode cc pc = .ok (.dup2, 1)) (hv : va.category = 1) (hw : vb.category = 1) (k : WX K wf nL X (pc + 1) lv (va :: vb :: va :: vb :: rest)) : WX K wf nL X pc lv (va :: vb :: rest) := by
  obtain ⟨p, l, e, R, s, m, args, below, meth, c, Q, D, A⟩ := K
  exact fun H locs ls hP hS hl => lv_dup2_11 C.1 C.2.1 hd hv hw (k H locs ls hP hS hl)
theorem x_if_eq (C : XC K wf nL cc own d tys) {x : Int32} {off : Int} {tgt : Nat} (hd : decode cc pc = .ok (.ifCond .eq off, 3)) (ht : (pc : Int) + off = (tgt : Int)) (kt : x = 0 → WX K wf nL X tgt lv rest) (kf : ¬ (x = 0) → WX K wf nL X (pc + 3) lv rest) : WX K wf nL X pc lv (.int x :: rest) := by
  obtain ⟨p, l, e, R, s, m, args, below, meth, c, Q, D, A⟩ := K
  exact fun H locs ls hP hS hl => lv_if_eq C.1 C.2.1 hd ht (fun h => kt h H locs ls hP hS hl) (fun h => kf h H locs ls hP hS hl)
theorem x_icmp_eq (C : XC K wf nL cc own d tys) {x y : Int32} {off : Int} {tgt : Nat} (hd : decode cc pc = .ok (.if_icmp .eq off, 3)) (ht : (pc : Int) + off = (tgt : Int)) (kt : x = y → WX K wf nL X tgt lv rest) (kf : ¬ (x = y) → WX K wf nL X (pc + 3) lv rest) : WX K wf nL X pc lv (.int y :: .int x :: rest) := by
  obtain ⟨p, l, e, R, s, m, args, below, meth, c, Q, D, A⟩ := K
  exact fun H locs ls hP hS hl => lv_icmp_eq C.1 C.2.1 hd ht (fun h => kt h H locs ls hP hS hl) (fun h => kf h H locs ls hP hS hl)
theorem x_if_ne (C : XC K wf nL cc own d tys) {x : Int32} {off : Int} {tgt : Nat} (hd : decode cc pc = .ok (.ifCond .ne off, 3)) (ht : (pc : Int) + off = (tgt : Int)) (kt : ¬ x = 0 → WX K wf nL X tgt lv rest) (kf : x = 0 → WX K wf nL X (pc + 3) lv rest) : WX K wf nL X pc lv (.int x :: rest) := by
  obtain ⟨p, l, e, R, s, m, args, below, meth, c, Q, D, A⟩ := K
  exact fun H locs ls hP hS hl => lv_if_ne C.1 C.2.1 hd ht (fun h => kt h H locs ls hP hS hl) (fun h => kf h H locs ls hP hS hl)
theorem x_icmp_ne (C : XC K wf nL cc own d tys) {x y : Int32} {off : Int} {tgt : Nat} (hd : decode cc pc = .ok (.if_icmp .ne off, 3)) (ht : (pc : Int) + off = (tgt : Int)) (kt : ¬ x = y → WX K wf nL X tgt lv rest) (kf : x = y → WX K wf nL X (pc + 3) lv rest) : WX K wf nL X pc lv (.int y :: .int x :: rest) := by
  obtain ⟨p, l, e, R, s, m, args, below, meth, c, Q, D, A⟩ := K
  exact fun H locs ls hP hS hl => lv_icmp_ne C.1 C.2.1 hd ht (fun h => kt h H locs ls hP hS hl) (fun h => kf h H locs ls hP hS hl)
theorem x_if_lt (C : XC K wf nL cc own d tys) {x : Int32} {off : Int} {tgt : Nat} (hd : decode cc pc = .ok (.ifCond .lt off, 3)) (ht : (pc : Int) + off = (tgt : Int)) (kt : x < 0 → WX K wf nL X tgt lv rest) (kf : ¬ (x < 0) → WX K wf nL X (pc + 3) lv rest) : WX K wf nL X pc lv (.int x :: rest) := by
  obtain ⟨p, l, e, R, s, m, args, below, meth, c, Q, D, A⟩ := K
  exact fun H locs ls hP hS hl => lv_if_lt C.1 C.2.1 hd ht (fun h => kt h H locs ls hP hS hl) (fun h => kf h H locs ls hP hS hl)
theorem x_icmp_lt (C : XC K wf nL cc own d tys) {x y : Int32} {off : Int} {tgt : Nat} (hd : decode cc pc = .ok (.if_icmp .lt off, 3)) (ht : (pc : Int) + off = (tgt : Int)) (kt : x < y → WX K wf nL X tgt lv rest) (kf : ¬ (x < y) → WX K wf nL X (pc + 3) lv rest) : WX K wf nL X pc lv (.int y :: .int x :: rest) := by
  obtain ⟨p, l, e, R, s, m, args, below, meth, c, Q, D, A⟩ := K
  exact fun H locs ls hP hS hl => lv_icmp_lt C.1 C.2.1 hd ht (fun h => kt h H locs ls hP hS hl) (fun h => kf h H locs ls hP hS hl)
theorem x_if_ge (C : XC K wf nL cc own d tys) {x : Int32} {off : Int} {tgt : Nat} (hd : decode cc pc = .ok (.ifCond .ge off, 3)) (ht : (pc : Int) + off = (tgt : Int)) (kt : 0 ≤ x → WX K wf nL X tgt lv rest) (kf : ¬ (0 ≤ x) → WX K wf nL X (pc + 3) lv rest) : WX K wf nL X pc lv (.int x :: rest) := by
  obtain ⟨p, l, e, R, s, m, args, below, meth, c, Q, D, A⟩ := K
  exact fun H locs ls hP hS hl => lv_if_ge C.1 C.2.1 hd ht (fun h => kt h H locs ls hP hS hl) (fun h => kf h H locs ls hP hS hl)
theorem x_icmp_ge (C : XC K wf nL cc own d tys) {x y : Int32} {off : Int} {tgt : Nat} (hd : decode cc pc = .ok (.if_icmp .ge off, 3)) (ht : (pc : Int) + off = (tgt : Int)) (kt : y ≤ x → WX K wf nL X tgt lv rest) (kf : ¬ (y ≤ x) → WX K wf nL X (pc + 3) lv rest) : WX K wf nL X pc lv (.int y :: .int x :: rest) := by
  obtain ⟨p, l, e, R, s, m, args, below, meth, c, Q, D, A⟩ := K
  exact fun H locs ls hP hS hl => lv_icmp_ge C.1 C.2.1 hd ht (fun h => kt h H locs ls hP hS hl) (fun h => kf h H locs ls hP hS hl)
theorem x_if_gt (C : XC K wf nL cc own d tys) {x : Int32} {off : Int} {tgt : Nat} (hd : decode cc pc = .ok (.ifCond .gt off, 3)) (ht : (pc : Int) + off = (tgt : Int)) (kt : 0 < x → WX K wf nL X tgt lv rest) (kf : ¬ (0 < x) → WX K wf nL X (pc + 3) lv rest) : WX K wf nL X pc lv (.int x :: rest) := by
  obtain ⟨p, l, e, R, s, m, args, below, meth, c, Q, D, A⟩ := K
  exact fun H locs ls hP hS hl => lv_if_gt C.1 C.2.1 hd ht (fun h => kt h H locs ls hP hS hl) (fun h => kf h H locs ls hP hS hl)
theorem x_icmp_gt (C : XC K wf nL cc own d tys) {x y : Int32} {off : Int} {tgt : Nat} (hd : decode cc pc = .ok (.if_icmp .gt off, 3)) (ht : (pc : Int) + off = (tgt : Int)) (kt : y < x → WX K wf nL X tgt lv rest) (kf : ¬ (y < x) → WX K wf nL X (pc + 3) lv rest) : WX K wf nL X pc lv (.int y :: .int x :: rest) := by
  obtain ⟨p, l, e, R, s, m, args, below, meth, c, Q, D, A⟩ := K
  exact fun H locs ls hP hS hl => lv_icmp_gt C.1 C.2.1 hd ht (fun h => kt h H locs ls hP hS hl) (fun h => kf h H locs ls hP hS hl)
theorem x_if_le (C : XC K wf nL cc own d tys) {x : Int32} {off : Int} {tgt : Nat} (hd : decode cc pc = .ok (.ifCond .le off, 3)) (ht : (pc : Int) + off = (tgt : Int)) (kt : x ≤ 0 → WX K wf nL X tgt lv rest) (kf : ¬ (x ≤ 0) → WX K wf nL X (pc + 3) lv rest) : WX K wf nL X pc lv (.int x :: rest) := by
  obtain ⟨p, l, e, R, s, m, args, below, meth, c, Q, D, A⟩ := K
  exact fun H locs ls hP hS hl => lv_if_le C.1 C.2.1 hd ht (fun h => kt h H locs ls hP hS hl) (fun h => kf h H locs ls hP hS hl)
theorem x_icmp_le (C : XC K wf nL cc own d tys) {x y : Int32} {off : Int} {tgt : Nat} (hd : decode cc pc = .ok (.if_icmp .le off, 3)) (ht : (pc : Int) + off = (tgt : Int)) (kt : x ≤ y → WX K wf nL X tgt lv rest) (kf : ¬ (x ≤ y) → WX K wf nL X (pc + 3) lv rest) : WX K wf nL X pc lv (.int y :: .int x :: rest) := by
  obtain ⟨p, l, e, R, s, m, args, below, meth, c, Q, D, A⟩ := K
  exact fun H locs ls hP hS hl => lv_icmp_le C.1 C.2.1 hd ht (fun h => kt h H locs ls hP hS hl) (fun h => kf h H locs ls hP hS hl)
theorem x_goto (C : XC K wf nL cc own d tys) {off : Int} {tgt : Nat} (hd : decode cc pc = .ok (.goto off, 3)) (ht : (pc : Int) + off = (tgt : Int)) (k : WX K wf nL X tgt lv rest) : WX K wf nL X pc lv rest := by
  obtain ⟨p, l, e, R, s, m, args, below, meth, c, Q, D, A⟩ := K
  exact fun H locs ls hP hS hl => lv_goto C.1 C.2.1 hd ht (k H locs ls hP hS hl)
theorem x_tin (C : XC K wf nL cc own d tys) {dflt lo hi : Int} {offs : Array Int} {len : Nat} {x : Int32} {off : Int} {tgt : Nat} (hd : decode cc pc = .ok (.tableswitch dflt lo hi offs, len)) (h1 : ¬ x.toInt < lo) (h2 : ¬ hi < x.toInt) (ho : offs[(x.toInt - lo).toNat]? = some off) (ht : (pc : Int) + off = (tgt : Int)) (k : WX K wf nL X tgt lv rest) : WX K wf nL X pc lv (.int x :: rest) := by
  obtain ⟨p, l, e, R, s, m, args, below, meth, c, Q, D, A⟩ := K
  exact fun H locs ls hP hS hl => lv_tableIn C.1 C.2.1 hd h1 h2 ho ht (k H locs ls hP hS hl)
theorem x_tout (C : XC K wf nL cc own d tys) {dflt lo hi : Int} {offs : Array Int} {len : Nat} {x : Int32} {tgt : Nat} (hd : decode cc pc = .ok (.tableswitch dflt lo hi offs, len)) (h : x.toInt < lo ∨ hi < x.toInt) (ht : (pc : Int) + dflt = (tgt : Int)) (k : WX K wf nL X tgt lv rest) : WX K wf nL X pc lv (.int x :: rest) := by
  obtain ⟨p, l, e, R, s, m, args, below, meth, c, Q, D, A⟩ := K
  exact fun H locs ls hP hS hl => lv_tableOut C.1 C.2.1 hd h ht (k H locs ls hP hS hl)
theorem x_eqX {X' : St} (h : X = X') (k : WX K wf nL X' pc lv rest) : WX K wf nL X pc lv rest := h ▸ k
theorem x_topi {x : Int32} (k : ∀ y : Int32, y = x → WX K wf nL X pc lv (.int y :: rest)) : WX K wf nL X pc lv (.int x :: rest) := k x rfl
theorem x_top {x y : Int32} (h : x = y) (k : WX K wf nL X pc lv (.int y :: rest)) : WX K wf nL X pc lv (.int x :: rest) := h ▸ k
theorem x_topl {x y : Int64} (h : x = y) (k : WX K wf nL X pc lv (.long y :: rest)) : WX K wf nL X pc lv (.long x :: rest) := h ▸ k
/-- the cells of a world: an object's number or reference, an array of numbers, an array of rows -/
def isFld (wf : St → va_W) (q0 b ci k a : Nat) : Prop := ∀ X : St, ∃ fs : List Value, (wf X)[q0]? = some (b, .inr (ci, fs)) ∧ fs[k]? = some (.int (X a 0)) ∧ ∀ v : Int32, (wf X).set q0 (b, .inr (ci, fs.set k (.int v))) = wf (ux X a 0 v)
def isRef (wf : St → va_W) (q0 b ci k b2 : Nat) : Prop := ∀ X : St, ∃ fs : List Value, (wf X)[q0]? = some (b, .inr (ci, fs)) ∧ fs[k]? = some (.ref b2)
def isRow (wf : St → va_W) (q0 b : Nat) (cA : ClassId) (n a : Nat) : Prop := ∀ X : St, (wf X)[q0]? = some (b, .inl (cA, n, .inl (X a))) ∧ ∀ (i : Nat) (v : Int32), (wf X).set q0 (b, .inl (cA, n, .inl (upd (X a) i v))) = wf (ux X a i v)
def isGrid (wf : St → va_W) (q0 b : Nat) (cA : ClassId) (n : Nat) (r : Nat → Nat) : Prop := ∀ X : St, (wf X)[q0]? = some (b, .inl (cA, n, .inr (.inr (.inr (.inr (fun i => some (r i)))))))
theorem x_getI (C : XC K wf nL cc own d tys) {ref Cn : String} {T : u_T} {N ci index q0 b k a : Nat} (h : isFld wf q0 b ci k a) (hc : vwCl[ci]? = some (Cn, T, N)) (hk : k < N) (hin : ∀ w ∈ u_ws Cn T N, w ∈ tA) (hlink : Cond.fieldLink own index ref (T k).2.1 (T k).2.2.1 ∈ tA) (href : (T k).1 = ref) (hd : decode cc pc = .ok (.getfield index, 3)) (kk : WX K wf nL X (pc + 3) lv (.int (X a 0) :: rest)) : WX K wf nL X pc lv (.ref b :: rest) := by
  obtain ⟨p, l, e, R, s, m, args, below, meth, c, Q, D, A⟩ := K
  obtain ⟨fs, h1, h2, -⟩ := h X
  exact fun H locs ls hP hS hl => va_get C.1 C.2.1 C.2.2.2.2.1 hin C.2.2.2.1 C.2.2.2.2.2.2.1 hP q0 h1 hc k hk (C.2.2.2.2.1 _ hlink) (fun x hx => by rw [← href]; exact hx) h2 hd (kk H locs ls hP hS hl)
theorem x_getR (C : XC K wf nL cc own d tys) {ref Cn : String} {T : u_T} {N ci index q0 b k b2 : Nat} (h : isRef wf q0 b ci k b2) (hc : vwCl[ci]? = some (Cn, T, N)) (hk : k < N) (hin : ∀ w ∈ u_ws Cn T N, w ∈ tA) (hlink : Cond.fieldLink own index ref (T k).2.1 (T k).2.2.1 ∈ tA) (href : (T k).1 = ref) (hd : decode cc pc = .ok (.getfield index, 3)) (kk : WX K wf nL X (pc + 3) lv (.ref b2 :: rest)) : WX K wf nL X pc lv (.ref b :: rest) := by
  obtain ⟨p, l, e, R, s, m, args, below, meth, c, Q, D, A⟩ := K
  obtain ⟨fs, h1, h2⟩ := h X
  exact fun H locs ls hP hS hl => va_get C.1 C.2.1 C.2.2.2.2.1 hin C.2.2.2.1 C.2.2.2.2.2.2.1 hP q0 h1 hc k hk (C.2.2.2.2.1 _ hlink) (fun x hx => by rw [← href]; exact hx) h2 hd (kk H locs ls hP hS hl)
theorem x_putI (C : XC K wf nL cc own d tys) {ref Cn : String} {T : u_T} {N ci index q0 b k a : Nat} (h : isFld wf q0 b ci k a) (hc : vwCl[ci]? = some (Cn, T, N)) (hk : k < N) (hin : ∀ w ∈ u_ws Cn T N, w ∈ tA) (ty0 : Nat → FieldType) (hty : ∀ k, k < N → parseFieldDescriptor (T k).2.2.1 = some (ty0 k)) (hnm : ∀ a, a < N → ∀ b, b < N → a ≠ b → (T a).2.1 ≠ (T b).2.1) (hlink : Cond.fieldLink own index ref (T k).2.1 (T k).2.2.1 ∈ tA) (href : (T k).1 = ref) (hfin : (T k).2.2.2 = false) {v : Int32} (hn : narrow (ty0 k) (.int v) = .int v) (hfit : fits (ty0 k) (.int v) = true) (hd : decode cc pc = .ok (.putfield index, 3)) (kk : WX K wf nL (ux X a 0 v) (pc + 3) lv rest) : WX K wf nL X pc lv (.int v :: .ref b :: rest) := by
  obtain ⟨p, l, e, R, s, m, args, below, meth, c, Q, D, A⟩ := K
  obtain ⟨fs, h1, h2, h3⟩ := h X
  exact fun H locs ls hP hS hl => va_put C.1 C.2.1 C.2.2.2.2.1 hin ty0 hty hnm C.2.2.2.1 C.2.2.2.2.2.2.1 hP (C.2.2.2.2.2.2.2.1 X) hS q0 h1 hc k hk (C.2.2.2.2.1 _ hlink) (fun x hx => by rw [← href]; exact hx) hfin (hty k hk) hn hfit (List.getElem?_eq_some_iff.mp h2).1 hd (fun H1 locs1 hP1 _ hS1 => kk H1 locs1 ls (by rw [← h3 v]; exact hP1) hS1 hl)
theorem x_iald (C : XC K wf nL cc own d tys) {q0 b n a : Nat} {cA : ClassId} (h : isRow wf q0 b cA n a) (t0 : Nat) (ht : tys[t0]? = some (cA, .int)) {i : Int32} (hd : decode cc pc = .ok (.iaload, 1)) (hin : vp_in i n) (kk : WX K wf nL X (pc + 1) lv (.int (X a (ix i)) :: rest)) : WX K wf nL X pc lv (.int i :: .ref b :: rest) := by
  obtain ⟨p, l, e, R, s, m, args, below, meth, c, Q, D, A⟩ := K
  exact fun H locs ls hP hS hl => va_iald C.1 C.2.1 C.2.2.2.2.2.2.1 hP q0 t0 (h X).1 ht hin hd (kk H locs ls hP hS hl)
theorem x_bald (C : XC K wf nL cc own d tys) {q0 b n a : Nat} {cA : ClassId} (h : isRow wf q0 b cA n a) (t0 : Nat) (ht : tys[t0]? = some (cA, .byte)) {i : Int32} (hd : decode cc pc = .ok (.baload, 1)) (hin : vp_in i n) (kk : WX K wf nL X (pc + 1) lv (.int (X a (ix i)) :: rest)) : WX K wf nL X pc lv (.int i :: .ref b :: rest) := by
  obtain ⟨p, l, e, R, s, m, args, below, meth, c, Q, D, A⟩ := K
  exact fun H locs ls hP hS hl => va_bald C.1 C.2.1 C.2.2.2.2.2.2.1 hP q0 t0 (h X).1 ht hin hd (kk H locs ls hP hS hl)
theorem x_zald (C : XC K wf nL cc own d tys) {q0 b n a : Nat} {cA : ClassId} (h : isRow wf q0 b cA n a) (t0 : Nat) (ht : tys[t0]? = some (cA, .boolean)) {i : Int32} (hd : decode cc pc = .ok (.baload, 1)) (hin : vp_in i n) (kk : WX K wf nL X (pc + 1) lv (.int (X a (ix i)) :: rest)) : WX K wf nL X pc lv (.int i :: .ref b :: rest) := by
  obtain ⟨p, l, e, R, s, m, args, below, meth, c, Q, D, A⟩ := K
  exact fun H locs ls hP hS hl => va_zald C.1 C.2.1 C.2.2.2.2.2.2.1 hP q0 t0 (h X).1 ht hin hd (kk H locs ls hP hS hl)
theorem x_iast (C : XC K wf nL cc own d tys) {q0 b n a : Nat} {cA : ClassId} (h : isRow wf q0 b cA n a) (t0 : Nat) (ht : tys[t0]? = some (cA, .int)) {i v : Int32} (hd : decode cc pc = .ok (.iastore, 1)) (hin : vp_in i n) (kk : WX K wf nL (ux X a (ix i) v) (pc + 1) lv rest) : WX K wf nL X pc lv (.int v :: .int i :: .ref b :: rest) := by
  obtain ⟨p, l, e, R, s, m, args, below, meth, c, Q, D, A⟩ := K
  exact fun H locs ls hP hS hl => va_iast C.1 C.2.1 C.2.2.2.2.2.2.1 hP (C.2.2.2.2.2.2.2.1 X) hS q0 t0 (h X).1 ht hin hd (fun H1 locs1 hP1 _ hS1 => kk H1 locs1 ls (by rw [← (h X).2]; exact hP1) hS1 hl)
theorem x_bast (C : XC K wf nL cc own d tys) {q0 b n a : Nat} {cA : ClassId} (h : isRow wf q0 b cA n a) (t0 : Nat) (ht : tys[t0]? = some (cA, .byte)) {i v : Int32} (hd : decode cc pc = .ok (.bastore, 1)) (hin : vp_in i n) (kk : WX K wf nL (ux X a (ix i) (vp_nar .byte v)) (pc + 1) lv rest) : WX K wf nL X pc lv (.int v :: .int i :: .ref b :: rest) := by
  obtain ⟨p, l, e, R, s, m, args, below, meth, c, Q, D, A⟩ := K
  exact fun H locs ls hP hS hl => va_bast C.1 C.2.1 C.2.2.2.2.2.2.1 hP (C.2.2.2.2.2.2.2.1 X) hS q0 t0 (h X).1 ht hin hd (fun H1 locs1 hP1 _ hS1 => kk H1 locs1 ls (by rw [← (h X).2]; exact hP1) hS1 hl)
theorem x_zast (C : XC K wf nL cc own d tys) {q0 b n a : Nat} {cA : ClassId} (h : isRow wf q0 b cA n a) (t0 : Nat) (ht : tys[t0]? = some (cA, .boolean)) {i v : Int32} (hd : decode cc pc = .ok (.bastore, 1)) (hin : vp_in i n) (kk : WX K wf nL (ux X a (ix i) (vp_nar .boolean v)) (pc + 1) lv rest) : WX K wf nL X pc lv (.int v :: .int i :: .ref b :: rest) := by
  obtain ⟨p, l, e, R, s, m, args, below, meth, c, Q, D, A⟩ := K
  exact fun H locs ls hP hS hl => va_zast C.1 C.2.1 C.2.2.2.2.2.2.1 hP (C.2.2.2.2.2.2.2.1 X) hS q0 t0 (h X).1 ht hin hd (fun H1 locs1 hP1 _ hS1 => kk H1 locs1 ls (by rw [← (h X).2]; exact hP1) hS1 hl)
theorem x_aald (C : XC K wf nL cc own d tys) {q0 b n : Nat} {cA : ClassId} {r : Nat → Nat} (h : isGrid wf q0 b cA n r) (t0 : Nat) {ty : FieldType} (ht : tys[t0]? = some (cA, .array ty)) {i : Int32} (hd : decode cc pc = .ok (.aaload, 1)) (hin : vp_in i n) (kk : WX K wf nL X (pc + 1) lv (.ref (r (ix i)) :: rest)) : WX K wf nL X pc lv (.int i :: .ref b :: rest) := by
  obtain ⟨p, l, e, R, s, m, args, below, meth, c, Q, D, A⟩ := K
  have hlt : i.toNatClampNeg < n := Nat.not_le.mp fun q => hin (Or.inr q)
  exact fun H locs ls hP hS hl => W.aald (v := .ref (r (ix i))) (ty := .array ty) C.1 C.2.1 (hP q0 _ (h X)) ((C.2.2.2.2.2.2.1.2 t0 _ ht).1 n (fun j => va_rf (some (r j)))) rfl (fun q => by cases q) (by show ¬ (i < 0 ∨ (arrV _ _ _).slots.size ≤ _); rw [arrV_size]; exact hin) (by show (arrV _ _ _).slots[_]? = _; rw [arrV_read _ _ hlt]; rfl) rfl rfl hd (kk H locs ls hP hS hl)
theorem x_alen (C : XC K wf nL cc own d tys) {q0 b n a : Nat} {cA : ClassId} (h : isRow wf q0 b cA n a) (t0 : Nat) {ty : FieldType} (ht : tys[t0]? = some (cA, ty)) (hd : decode cc pc = .ok (.arraylength, 1)) (kk : WX K wf nL X (pc + 1) lv (.int (nI n) :: rest)) : WX K wf nL X pc lv (.ref b :: rest) := by
  obtain ⟨p, l, e, R, s, m, args, below, meth, c, Q, D, A⟩ := K
  exact fun H locs ls hP hS hl => va_alen C.1 C.2.1 C.2.2.2.2.2.2.1 hP q0 t0 (h X).1 ht rfl hd (kk H locs ls hP hS hl)
theorem x_max (C : XC K wf nL cc own d tys) {x y : Int32} {index : Nat} (hlink : Cond.methodLink own index Lib.Math.max.name ∈ tA) (hd0 : 0 < d) (hr : (rest.map fun v => v.category).sum ≤ 8) (hd : decode cc pc = .ok (.invokestatic index, 3)) (kk : WX K wf nL X (pc + 3) lv (.int (if x < y then y else x) :: rest)) : WX K wf nL X pc lv (.int y :: .int x :: rest) := by
  obtain ⟨p, l, e, R, s, m, args, below, meth, c, Q, D, A⟩ := K
  have hR : R = rL d := C.2.2.2.2.2.1
  exact fun H locs ls hP hS hl => va_mmax C.1 C.2.1 (by rw [C.2.2.1]; exact hl.1.symm) C.2.2.2.1 (C.2.2.2.2.1 _ hlink) (C.2.2.2.2.1 _ st_max) (C.2.2.2.2.1 _ in_J9) (C.2.2.2.2.1 _ co_max) (by rw [hR]; exact hd0) (by rw [hR]; show _ ≤ 40 * d; omega) (Nat.zero_le _) (Nat.zero_le _) hd (kk H locs ls hP hS hl)
theorem x_min (C : XC K wf nL cc own d tys) {x y : Int32} {index : Nat} (hlink : Cond.methodLink own index Lib.Math.min.name ∈ tA) (hd0 : 0 < d) (hr : (rest.map fun v => v.category).sum ≤ 8) (hd : decode cc pc = .ok (.invokestatic index, 3)) (kk : WX K wf nL X (pc + 3) lv (.int (if y < x then y else x) :: rest)) : WX K wf nL X pc lv (.int y :: .int x :: rest) := by
  obtain ⟨p, l, e, R, s, m, args, below, meth, c, Q, D, A⟩ := K
  have hR : R = rL d := C.2.2.2.2.2.1
  exact fun H locs ls hP hS hl => va_mmin C.1 C.2.1 (by rw [C.2.2.1]; exact hl.1.symm) C.2.2.2.1 (C.2.2.2.2.1 _ hlink) (C.2.2.2.2.1 _ st_min) (C.2.2.2.2.1 _ in_J9) (C.2.2.2.2.1 _ co_min) (by rw [hR]; exact hd0) (by rw [hR]; show _ ≤ 40 * d; omega) (Nat.zero_le _) (Nat.zero_le _) hd (kk H locs ls hP hS hl)
theorem x_abs (C : XC K wf nL cc own d tys) {x : Int32} {index : Nat} (hlink : Cond.methodLink own index Lib.Math.abs.name ∈ tA) (hd0 : 0 < d) (hr : (rest.map fun v => v.category).sum ≤ 8) (hd : decode cc pc = .ok (.invokestatic index, 3)) (kk : WX K wf nL X (pc + 3) lv (.int (if 0 ≤ x then x else 0 - x) :: rest)) : WX K wf nL X pc lv (.int x :: rest) := by
  obtain ⟨p, l, e, R, s, m, args, below, meth, c, Q, D, A⟩ := K
  have hR : R = rL d := C.2.2.2.2.2.1
  exact fun H locs ls hP hS hl => va_mabs C.1 C.2.1 (by rw [C.2.2.1]; exact hl.1.symm) C.2.2.2.1 (C.2.2.2.2.1 _ hlink) (C.2.2.2.2.1 _ st_abs) (C.2.2.2.2.1 _ in_J9) (C.2.2.2.2.1 _ co_abs) (by rw [hR]; exact hd0) (by rw [hR]; show _ ≤ 40 * d; omega) (Nat.zero_le _) (Nat.zero_le _) hd (kk H locs ls hP hS hl)
theorem x_callVi (C : XC K wf nL cc own d tys) {y : MethodName} {cy : ByteArray} {ny d2 index : Nat} {ret : Option FieldType} {post : Int32 → St → Prop} {q0 ci b : Nat} {fs : List Value} {qc : vw_C} (As : List Value) (hM : ∀ l D, Ci l y cy ny ret d2 wf D tys (.ref b :: As) X post) (hrc : (wf X)[q0]? = some (b, .inr (ci, fs))) (hc : vwCl[ci]? = some qc) (hlink : Cond.methodLink own index y ∈ tA) (hco : Cond.code y cy ny ret ∈ tA) (him : Cond.instanceMethod y ∈ tA) (hse : Cond.selects qc.1 y y ∈ tA) (hin : Cond.initialized qc.1 ∈ tA) (hy : y.cls = qc.1 ∧ y.cls ≠ "java/lang/invoke/MethodHandle" ∧ y.cls ≠ "java/lang/invoke/VarHandle" ∧ (parseMethodDescriptor y.desc).map (fun d => d.parameters.length) = some As.length) (hdd : d2 + 1 ≤ d) (hny : ny ≤ 21) (hr : (rest.map fun v => v.category).sum ≤ 8) (hd : decode cc pc = .ok (.invokevirtual index, 3)) {st : List Value} (hst0 : st = As.reverse ++ .ref b :: rest) (kk : ∀ (r : Int32) (X1 : St), post r X1 → WX K wf nL X1 (pc + 3) lv (.int r :: rest)) : WX K wf nL X pc lv st := by
  subst hst0
  obtain ⟨p, l, e, R, s, m, args, below, meth, c, Q, D, A⟩ := K
  have hR : R = rL d := C.2.2.2.2.2.1
  have hG := lw_gi (ws := wsV own index qc.1 y (Cond.code y cy ny ret :: tA)) (by
    intro w hw
    rcases List.mem_append.mp hw with h | h
    · simp only [List.mem_cons, List.not_mem_nil, or_false] at h
      rcases h with rfl | rfl | rfl | rfl <;> assumption
    · rcases List.mem_cons.mp h with rfl | h <;> assumption)
  intro H locs ls hP hS hl
  have hF : ∀ q, va_A (wf X) H.size q → A q := fun q h => by
    rcases h with ⟨k, e, h⟩ | h
    · exact (C.2.2.2.2.2.2.2.1 X).2 k _ h
    · exact C.2.2.2.2.2.2.2.2 q (Nat.le_trans hS.1 h)
  exact va_calli (va_runV (As := As) (rest := rest) ⟨C.1, C.2.1, C.2.2.1, C.2.2.2.1, C.2.2.2.2.1⟩ (hM l D H.size) (cwV As.length C.2.2.2.2.1 (hG) rfl rfl rfl hy (by rw [hR]; exact ⟨hdd, by show _ + 40 * d2 ≤ 40 * d; omega⟩)) ⟨PcX_blind, va_recv C.2.2.2.2.2.2.1 hP hc hrc, fun U hU hW => ⟨rfl, by rw [hU], by rw [hU]; exact hP, va_K.moved hW.alike C.2.2.2.2.2.2.1, (C.2.2.2.2.2.2.2.1 X).weaken (fun _ _ _ _ => trivial)⟩⟩ rfl rfl hl.1 rfl (lv_room hr) hd ⟨Nat.zero_le _, Nat.zero_le _⟩) hS (fun q _ h => hF q h) hF (fun r u t H1 locs1 ht hvm hw hB hz1 hk1 hS1 => kk r u hw H1 locs1 ls (by rw [← ht]; exact hB) hS1 hl)
theorem x_callVl (C : XC K wf nL cc own d tys) {y : MethodName} {cy : ByteArray} {ny d2 index : Nat} {ret : Option FieldType} {post : Int64 → St → Prop} {q0 ci b : Nat} {fs : List Value} {qc : vw_C} (As : List Value) (hM : ∀ l D, Cl l y cy ny ret d2 wf D tys (.ref b :: As) X post) (hrc : (wf X)[q0]? = some (b, .inr (ci, fs))) (hc : vwCl[ci]? = some qc) (hlink : Cond.methodLink own index y ∈ tA) (hco : Cond.code y cy ny ret ∈ tA) (him : Cond.instanceMethod y ∈ tA) (hse : Cond.selects qc.1 y y ∈ tA) (hin : Cond.initialized qc.1 ∈ tA) (hy : y.cls = qc.1 ∧ y.cls ≠ "java/lang/invoke/MethodHandle" ∧ y.cls ≠ "java/lang/invoke/VarHandle" ∧ (parseMethodDescriptor y.desc).map (fun d => d.parameters.length) = some As.length) (hdd : d2 + 1 ≤ d) (hny : ny ≤ 21) (hr : (rest.map fun v => v.category).sum ≤ 8) (hd : decode cc pc = .ok (.invokevirtual index, 3)) {st : List Value} (hst0 : st = As.reverse ++ .ref b :: rest) (kk : ∀ (r : Int64) (X1 : St), post r X1 → WX K wf nL X1 (pc + 3) lv (.long r :: rest)) : WX K wf nL X pc lv st := by
  subst hst0
  obtain ⟨p, l, e, R, s, m, args, below, meth, c, Q, D, A⟩ := K
  have hR : R = rL d := C.2.2.2.2.2.1
  have hG := lw_gi (ws := wsV own index qc.1 y (Cond.code y cy ny ret :: tA)) (by
    intro w hw
    rcases List.mem_append.mp hw with h | h
    · simp only [List.mem_cons, List.not_mem_nil, or_false] at h
      rcases h with rfl | rfl | rfl | rfl <;> assumption
    · rcases List.mem_cons.mp h with rfl | h <;> assumption)
  intro H locs ls hP hS hl
  have hF : ∀ q, va_A (wf X) H.size q → A q := fun q h => by
    rcases h with ⟨k, e, h⟩ | h
    · exact (C.2.2.2.2.2.2.2.1 X).2 k _ h
    · exact C.2.2.2.2.2.2.2.2 q (Nat.le_trans hS.1 h)
  exact va_calll (va_runV (As := As) (rest := rest) ⟨C.1, C.2.1, C.2.2.1, C.2.2.2.1, C.2.2.2.2.1⟩ (hM l D H.size) (cwV As.length C.2.2.2.2.1 (hG) rfl rfl rfl hy (by rw [hR]; exact ⟨hdd, by show _ + 40 * d2 ≤ 40 * d; omega⟩)) ⟨PcX_blind, va_recv C.2.2.2.2.2.2.1 hP hc hrc, fun U hU hW => ⟨rfl, by rw [hU], by rw [hU]; exact hP, va_K.moved hW.alike C.2.2.2.2.2.2.1, (C.2.2.2.2.2.2.2.1 X).weaken (fun _ _ _ _ => trivial)⟩⟩ rfl rfl hl.1 rfl (lv_room hr) hd ⟨Nat.zero_le _, Nat.zero_le _⟩) hS (fun q _ h => hF q h) hF (fun r u t H1 locs1 ht hvm hw hB hz1 hk1 hS1 => kk r u hw H1 locs1 ls (by rw [← ht]; exact hB) hS1 hl)
theorem x_callVv (C : XC K wf nL cc own d tys) {y : MethodName} {cy : ByteArray} {ny d2 index : Nat} {ret : Option FieldType} {post : St → Prop} {q0 ci b : Nat} {fs : List Value} {qc : vw_C} (As : List Value) (hM : ∀ l D, Cv l y cy ny ret d2 wf D tys (.ref b :: As) X post) (hrc : (wf X)[q0]? = some (b, .inr (ci, fs))) (hc : vwCl[ci]? = some qc) (hlink : Cond.methodLink own index y ∈ tA) (hco : Cond.code y cy ny ret ∈ tA) (him : Cond.instanceMethod y ∈ tA) (hse : Cond.selects qc.1 y y ∈ tA) (hin : Cond.initialized qc.1 ∈ tA) (hy : y.cls = qc.1 ∧ y.cls ≠ "java/lang/invoke/MethodHandle" ∧ y.cls ≠ "java/lang/invoke/VarHandle" ∧ (parseMethodDescriptor y.desc).map (fun d => d.parameters.length) = some As.length) (hdd : d2 + 1 ≤ d) (hny : ny ≤ 21) (hr : (rest.map fun v => v.category).sum ≤ 8) (hd : decode cc pc = .ok (.invokevirtual index, 3)) {st : List Value} (hst0 : st = As.reverse ++ .ref b :: rest) (kk : ∀ (X1 : St), post X1 → WX K wf nL X1 (pc + 3) lv (rest)) : WX K wf nL X pc lv st := by
  subst hst0
  obtain ⟨p, l, e, R, s, m, args, below, meth, c, Q, D, A⟩ := K
  have hR : R = rL d := C.2.2.2.2.2.1
  have hG := lw_gi (ws := wsV own index qc.1 y (Cond.code y cy ny ret :: tA)) (by
    intro w hw
    rcases List.mem_append.mp hw with h | h
    · simp only [List.mem_cons, List.not_mem_nil, or_false] at h
      rcases h with rfl | rfl | rfl | rfl <;> assumption
    · rcases List.mem_cons.mp h with rfl | h <;> assumption)
  intro H locs ls hP hS hl
  have hF : ∀ q, va_A (wf X) H.size q → A q := fun q h => by
    rcases h with ⟨k, e, h⟩ | h
    · exact (C.2.2.2.2.2.2.2.1 X).2 k _ h
    · exact C.2.2.2.2.2.2.2.2 q (Nat.le_trans hS.1 h)
  exact va_callv (va_runV (As := As) (rest := rest) ⟨C.1, C.2.1, C.2.2.1, C.2.2.2.1, C.2.2.2.2.1⟩ (hM l D H.size) (cwV As.length C.2.2.2.2.1 (hG) rfl rfl rfl hy (by rw [hR]; exact ⟨hdd, by show _ + 40 * d2 ≤ 40 * d; omega⟩)) ⟨PcX_blind, va_recv C.2.2.2.2.2.2.1 hP hc hrc, fun U hU hW => ⟨rfl, by rw [hU], by rw [hU]; exact hP, va_K.moved hW.alike C.2.2.2.2.2.2.1, (C.2.2.2.2.2.2.2.1 X).weaken (fun _ _ _ _ => trivial)⟩⟩ rfl rfl hl.1 rfl (lv_room hr) hd ⟨Nat.zero_le _, Nat.zero_le _⟩) hS (fun q _ h => hF q h) hF (fun u t H1 locs1 ht hvm hw hB hz1 hk1 hS1 => kk u hw H1 locs1 ls (by rw [← ht]; exact hB) hS1 hl)
theorem x_callSi (C : XC K wf nL cc own d tys) {y : MethodName} {cy : ByteArray} {ny d2 index : Nat} {ret : Option FieldType} {post : Int32 → St → Prop} (As : List Value) (hM : ∀ l D, Ci l y cy ny ret d2 wf D tys As X post) (hlink : Cond.methodLink own index y ∈ tA) (hco : Cond.code y cy ny ret ∈ tA) (hst : Cond.static y ∈ tA) (hin : Cond.initialized y.cls ∈ tA) (hy : y.cls ≠ "java/lang/invoke/MethodHandle" ∧ y.cls ≠ "java/lang/invoke/VarHandle" ∧ (parseMethodDescriptor y.desc).map (fun d => d.parameters.length) = some As.length) (hdd : d2 + 1 ≤ d) (hny : ny ≤ 21) (hr : (rest.map fun v => v.category).sum ≤ 8) (hd : decode cc pc = .ok (.invokestatic index, 3)) {st : List Value} (hst0 : st = As.reverse ++ rest) (kk : ∀ (r : Int32) (X1 : St), post r X1 → WX K wf nL X1 (pc + 3) lv (.int r :: rest)) : WX K wf nL X pc lv st := by
  subst hst0
  obtain ⟨p, l, e, R, s, m, args, below, meth, c, Q, D, A⟩ := K
  have hR : R = rL d := C.2.2.2.2.2.1
  have hG := lw_gi (ws := va_wsS own index y (Cond.code y cy ny ret :: tA)) (by
    intro w hw
    rcases List.mem_append.mp hw with h | h
    · simp only [List.mem_cons, List.not_mem_nil, or_false] at h
      rcases h with rfl | rfl | rfl <;> assumption
    · rcases List.mem_cons.mp h with rfl | h <;> assumption)
  intro H locs ls hP hS hl
  have hF : ∀ q, va_A (wf X) H.size q → A q := fun q h => by
    rcases h with ⟨k, e, h⟩ | h
    · exact (C.2.2.2.2.2.2.2.1 X).2 k _ h
    · exact C.2.2.2.2.2.2.2.2 q (Nat.le_trans hS.1 h)
  exact va_calli (va_runS (As := As) (rest := rest) ⟨C.1, C.2.1, C.2.2.1, C.2.2.2.1, C.2.2.2.2.1⟩ (hM l D H.size) (va_cwS As.length C.2.2.2.2.1 (hG) rfl rfl rfl hy (by rw [hR]; exact ⟨hdd, by show _ + 40 * d2 ≤ 40 * d; omega⟩)) ⟨PcX_blind, fun U hU hW => ⟨rfl, by rw [hU], by rw [hU]; exact hP, va_K.moved hW.alike C.2.2.2.2.2.2.1, (C.2.2.2.2.2.2.2.1 X).weaken (fun _ _ _ _ => trivial)⟩⟩ rfl rfl hl.1 rfl (lv_room hr) hd ⟨Nat.zero_le _, Nat.zero_le _⟩) hS (fun q _ h => hF q h) hF (fun r u t H1 locs1 ht hvm hw hB hz1 hk1 hS1 => kk r u hw H1 locs1 ls (by rw [← ht]; exact hB) hS1 hl)
theorem x_callSl (C : XC K wf nL cc own d tys) {y : MethodName} {cy : ByteArray} {ny d2 index : Nat} {ret : Option FieldType} {post : Int64 → St → Prop} (As : List Value) (hM : ∀ l D, Cl l y cy ny ret d2 wf D tys As X post) (hlink : Cond.methodLink own index y ∈ tA) (hco : Cond.code y cy ny ret ∈ tA) (hst : Cond.static y ∈ tA) (hin : Cond.initialized y.cls ∈ tA) (hy : y.cls ≠ "java/lang/invoke/MethodHandle" ∧ y.cls ≠ "java/lang/invoke/VarHandle" ∧ (parseMethodDescriptor y.desc).map (fun d => d.parameters.length) = some As.length) (hdd : d2 + 1 ≤ d) (hny : ny ≤ 21) (hr : (rest.map fun v => v.category).sum ≤ 8) (hd : decode cc pc = .ok (.invokestatic index, 3)) {st : List Value} (hst0 : st = As.reverse ++ rest) (kk : ∀ (r : Int64) (X1 : St), post r X1 → WX K wf nL X1 (pc + 3) lv (.long r :: rest)) : WX K wf nL X pc lv st := by
  subst hst0
  obtain ⟨p, l, e, R, s, m, args, below, meth, c, Q, D, A⟩ := K
  have hR : R = rL d := C.2.2.2.2.2.1
  have hG := lw_gi (ws := va_wsS own index y (Cond.code y cy ny ret :: tA)) (by
    intro w hw
    rcases List.mem_append.mp hw with h | h
    · simp only [List.mem_cons, List.not_mem_nil, or_false] at h
      rcases h with rfl | rfl | rfl <;> assumption
    · rcases List.mem_cons.mp h with rfl | h <;> assumption)
  intro H locs ls hP hS hl
  have hF : ∀ q, va_A (wf X) H.size q → A q := fun q h => by
    rcases h with ⟨k, e, h⟩ | h
    · exact (C.2.2.2.2.2.2.2.1 X).2 k _ h
    · exact C.2.2.2.2.2.2.2.2 q (Nat.le_trans hS.1 h)
  exact va_calll (va_runS (As := As) (rest := rest) ⟨C.1, C.2.1, C.2.2.1, C.2.2.2.1, C.2.2.2.2.1⟩ (hM l D H.size) (va_cwS As.length C.2.2.2.2.1 (hG) rfl rfl rfl hy (by rw [hR]; exact ⟨hdd, by show _ + 40 * d2 ≤ 40 * d; omega⟩)) ⟨PcX_blind, fun U hU hW => ⟨rfl, by rw [hU], by rw [hU]; exact hP, va_K.moved hW.alike C.2.2.2.2.2.2.1, (C.2.2.2.2.2.2.2.1 X).weaken (fun _ _ _ _ => trivial)⟩⟩ rfl rfl hl.1 rfl (lv_room hr) hd ⟨Nat.zero_le _, Nat.zero_le _⟩) hS (fun q _ h => hF q h) hF (fun r u t H1 locs1 ht hvm hw hB hz1 hk1 hS1 => kk r u hw H1 locs1 ls (by rw [← ht]; exact hB) hS1 hl)
theorem x_callSv (C : XC K wf nL cc own d tys) {y : MethodName} {cy : ByteArray} {ny d2 index : Nat} {ret : Option FieldType} {post : St → Prop} (As : List Value) (hM : ∀ l D, Cv l y cy ny ret d2 wf D tys As X post) (hlink : Cond.methodLink own index y ∈ tA) (hco : Cond.code y cy ny ret ∈ tA) (hst : Cond.static y ∈ tA) (hin : Cond.initialized y.cls ∈ tA) (hy : y.cls ≠ "java/lang/invoke/MethodHandle" ∧ y.cls ≠ "java/lang/invoke/VarHandle" ∧ (parseMethodDescriptor y.desc).map (fun d => d.parameters.length) = some As.length) (hdd : d2 + 1 ≤ d) (hny : ny ≤ 21) (hr : (rest.map fun v => v.category).sum ≤ 8) (hd : decode cc pc = .ok (.invokestatic index, 3)) {st : List Value} (hst0 : st = As.reverse ++ rest) (kk : ∀ (X1 : St), post X1 → WX K wf nL X1 (pc + 3) lv (rest)) : WX K wf nL X pc lv st := by
  subst hst0
  obtain ⟨p, l, e, R, s, m, args, below, meth, c, Q, D, A⟩ := K
  have hR : R = rL d := C.2.2.2.2.2.1
  have hG := lw_gi (ws := va_wsS own index y (Cond.code y cy ny ret :: tA)) (by
    intro w hw
    rcases List.mem_append.mp hw with h | h
    · simp only [List.mem_cons, List.not_mem_nil, or_false] at h
      rcases h with rfl | rfl | rfl <;> assumption
    · rcases List.mem_cons.mp h with rfl | h <;> assumption)
  intro H locs ls hP hS hl
  have hF : ∀ q, va_A (wf X) H.size q → A q := fun q h => by
    rcases h with ⟨k, e, h⟩ | h
    · exact (C.2.2.2.2.2.2.2.1 X).2 k _ h
    · exact C.2.2.2.2.2.2.2.2 q (Nat.le_trans hS.1 h)
  exact va_callv (va_runS (As := As) (rest := rest) ⟨C.1, C.2.1, C.2.2.1, C.2.2.2.1, C.2.2.2.2.1⟩ (hM l D H.size) (va_cwS As.length C.2.2.2.2.1 (hG) rfl rfl rfl hy (by rw [hR]; exact ⟨hdd, by show _ + 40 * d2 ≤ 40 * d; omega⟩)) ⟨PcX_blind, fun U hU hW => ⟨rfl, by rw [hU], by rw [hU]; exact hP, va_K.moved hW.alike C.2.2.2.2.2.2.1, (C.2.2.2.2.2.2.2.1 X).weaken (fun _ _ _ _ => trivial)⟩⟩ rfl rfl hl.1 rfl (lv_room hr) hd ⟨Nat.zero_le _, Nat.zero_le _⟩) hS (fun q _ h => hF q h) hF (fun u t H1 locs1 ht hvm hw hB hz1 hk1 hS1 => kk u hw H1 locs1 ls (by rw [← ht]; exact hB) hS1 hl)
end XR
theorem m_i {l : Launch} {y : MethodName} {cc : ByteArray} {nL d : Nat} {wf : St → va_W} {D : va_G} {tys : List (ClassId × FieldType)} (avs : List Value) {X : St} {post : Int32 → St → Prop} {lv : List (Nat × Value)} (own : String) (hown : y.cls = own) (hwf : wfA wf) (hpn : plainName y.cls = true) (hnl : (lg_sl avs).length ≤ nL) (hlv : lv_args 0 avs = lv)
    (body : ∀ K : Cx, XC K wf nL cc own d tys → (∀ (v : Int32) (X1 : St) (pc : Nat) (lv1 : List (Nat × Value)), decode cc pc = .ok (.ireturn, 1) → post v X1 → WX K wf nL X1 pc lv1 [.int v]) → WX K wf nL X 0 lv []) : Ci l y cc nL (some .int) d wf D tys avs X post := by
  intro sz
  refine Met.ofW (cc := cc) (maxL := nL) (ret := (some .int)) hpn rfl ?_
  intro p e s m args below meth c s₁ B hml hv
  obtain ⟨rfl, hsz, hP, hK, hD0⟩ := hv
  have hts := atoms_spec (ws := .code y cc nL (some .int) :: tA) B.pre
  have hfc : s.vm.findClass own = some m.cls := by rw [← hown]; exact findClass_of_methodNamed B.named
  have hlocks := B.notSynchronized
  have hr := B.returns
  subst hsz
  subst hlv
  have hl := lv_entry avs (n := nL) hnl
  rw [lg_entry_eq]
  have hC : XC (p, l, e, (headSpec (.code y cc nL (some .int) :: tA) (rL d)).room, s, m, avs.toArray, below, meth, c, MQ below (va_Qi post (fun u t => va_P D vwCl (wf u) t.heap) (va_A (wf X) s.heap.size)) avs.toArray s 0 0 (va_A (wf X) s.heap.size), D, va_A (wf X) s.heap.size) wf nL cc own d tys := ⟨B.exec, B.bytes, hml, hfc, fun w hw => hts w (List.mem_cons_of_mem _ hw), rfl, hK, fun Y => va_D.adr (hwf X Y) hD0.self, fun q h => Or.inr h⟩
  exact body _ hC (fun v X1 pc lv1 hd hp H locs ls hP hS hl => W.iret B.exec B.bytes hr (fun t ht hW => ⟨⟨v, X1, rfl, hp, by show va_P D vwCl (wf X1) t.heap; rw [ht]; exact hP⟩, hS.F ht⟩) hS.2.2 hd) s.heap [] _ hP va_S.rf hl
theorem m_z {l : Launch} {y : MethodName} {cc : ByteArray} {nL d : Nat} {wf : St → va_W} {D : va_G} {tys : List (ClassId × FieldType)} (avs : List Value) {X : St} {post : Int32 → St → Prop} {lv : List (Nat × Value)} (own : String) (hown : y.cls = own) (hwf : wfA wf) (hpn : plainName y.cls = true) (hnl : (lg_sl avs).length ≤ nL) (hlv : lv_args 0 avs = lv)
    (body : ∀ K : Cx, XC K wf nL cc own d tys → (∀ (v : Int32) (X1 : St) (pc : Nat) (lv1 : List (Nat × Value)), decode cc pc = .ok (.ireturn, 1) → narrow .boolean (.int v) = .int v → post v X1 → WX K wf nL X1 pc lv1 [.int v]) → WX K wf nL X 0 lv []) : Ci l y cc nL (some .boolean) d wf D tys avs X post := by
  intro sz
  refine Met.ofW (cc := cc) (maxL := nL) (ret := (some .boolean)) hpn rfl ?_
  intro p e s m args below meth c s₁ B hml hv
  obtain ⟨rfl, hsz, hP, hK, hD0⟩ := hv
  have hts := atoms_spec (ws := .code y cc nL (some .boolean) :: tA) B.pre
  have hfc : s.vm.findClass own = some m.cls := by rw [← hown]; exact findClass_of_methodNamed B.named
  have hlocks := B.notSynchronized
  have hr := B.returns
  subst hsz
  subst hlv
  have hl := lv_entry avs (n := nL) hnl
  rw [lg_entry_eq]
  have hC : XC (p, l, e, (headSpec (.code y cc nL (some .boolean) :: tA) (rL d)).room, s, m, avs.toArray, below, meth, c, MQ below (va_Qi post (fun u t => va_P D vwCl (wf u) t.heap) (va_A (wf X) s.heap.size)) avs.toArray s 0 0 (va_A (wf X) s.heap.size), D, va_A (wf X) s.heap.size) wf nL cc own d tys := ⟨B.exec, B.bytes, hml, hfc, fun w hw => hts w (List.mem_cons_of_mem _ hw), rfl, hK, fun Y => va_D.adr (hwf X Y) hD0.self, fun q h => Or.inr h⟩
  exact body _ hC (fun v X1 pc lv1 hd hnr hp H locs ls hP hS hl => W.zret B.exec B.bytes hr hnr (fun t ht hW => ⟨⟨v, X1, rfl, hp, by show va_P D vwCl (wf X1) t.heap; rw [ht]; exact hP⟩, hS.F ht⟩) hS.2.2 hd) s.heap [] _ hP va_S.rf hl
theorem m_l {l : Launch} {y : MethodName} {cc : ByteArray} {nL d : Nat} {wf : St → va_W} {D : va_G} {tys : List (ClassId × FieldType)} (avs : List Value) {X : St} {post : Int64 → St → Prop} {lv : List (Nat × Value)} (own : String) (hown : y.cls = own) (hwf : wfA wf) (hpn : plainName y.cls = true) (hnl : (lg_sl avs).length ≤ nL) (hlv : lv_args 0 avs = lv)
    (body : ∀ K : Cx, XC K wf nL cc own d tys → (∀ (v : Int64) (X1 : St) (pc : Nat) (lv1 : List (Nat × Value)), decode cc pc = .ok (.lreturn, 1) → post v X1 → WX K wf nL X1 pc lv1 [.long v]) → WX K wf nL X 0 lv []) : Cl l y cc nL (some .long) d wf D tys avs X post := by
  intro sz
  refine Met.ofW (cc := cc) (maxL := nL) (ret := (some .long)) hpn rfl ?_
  intro p e s m args below meth c s₁ B hml hv
  obtain ⟨rfl, hsz, hP, hK, hD0⟩ := hv
  have hts := atoms_spec (ws := .code y cc nL (some .long) :: tA) B.pre
  have hfc : s.vm.findClass own = some m.cls := by rw [← hown]; exact findClass_of_methodNamed B.named
  have hlocks := B.notSynchronized
  have hr := B.returns
  subst hsz
  subst hlv
  have hl := lv_entry avs (n := nL) hnl
  rw [lg_entry_eq]
  have hC : XC (p, l, e, (headSpec (.code y cc nL (some .long) :: tA) (rL d)).room, s, m, avs.toArray, below, meth, c, MQ below (va_Ql post (fun u t => va_P D vwCl (wf u) t.heap) (va_A (wf X) s.heap.size)) avs.toArray s 0 0 (va_A (wf X) s.heap.size), D, va_A (wf X) s.heap.size) wf nL cc own d tys := ⟨B.exec, B.bytes, hml, hfc, fun w hw => hts w (List.mem_cons_of_mem _ hw), rfl, hK, fun Y => va_D.adr (hwf X Y) hD0.self, fun q h => Or.inr h⟩
  exact body _ hC (fun v X1 pc lv1 hd hp H locs ls hP hS hl => W.lret B.exec B.bytes hr (fun t ht hW => ⟨⟨v, X1, rfl, hp, by show va_P D vwCl (wf X1) t.heap; rw [ht]; exact hP⟩, hS.F ht⟩) hS.2.2 hd) s.heap [] _ hP va_S.rf hl
theorem m_v {l : Launch} {y : MethodName} {cc : ByteArray} {nL d : Nat} {wf : St → va_W} {D : va_G} {tys : List (ClassId × FieldType)} (avs : List Value) {X : St} {post : St → Prop} {lv : List (Nat × Value)} (own : String) (hown : y.cls = own) (hwf : wfA wf) (hpn : plainName y.cls = true) (hnl : (lg_sl avs).length ≤ nL) (hlv : lv_args 0 avs = lv)
    (body : ∀ K : Cx, XC K wf nL cc own d tys → (∀ (X1 : St) (pc : Nat) (lv1 : List (Nat × Value)), decode cc pc = .ok (.return_, 1) → post X1 → WX K wf nL X1 pc lv1 []) → WX K wf nL X 0 lv []) : Cv l y cc nL none d wf D tys avs X post := by
  intro sz
  refine Met.ofW (cc := cc) (maxL := nL) (ret := none) hpn rfl ?_
  intro p e s m args below meth c s₁ B hml hv
  obtain ⟨rfl, hsz, hP, hK, hD0⟩ := hv
  have hts := atoms_spec (ws := .code y cc nL none :: tA) B.pre
  have hfc : s.vm.findClass own = some m.cls := by rw [← hown]; exact findClass_of_methodNamed B.named
  have hlocks := B.notSynchronized
  have hr := B.returns
  subst hsz
  subst hlv
  have hl := lv_entry avs (n := nL) hnl
  rw [lg_entry_eq]
  have hC : XC (p, l, e, (headSpec (.code y cc nL none :: tA) (rL d)).room, s, m, avs.toArray, below, meth, c, MQ below (va_Qv post (fun u t => va_P D vwCl (wf u) t.heap) (va_A (wf X) s.heap.size)) avs.toArray s 0 0 (va_A (wf X) s.heap.size), D, va_A (wf X) s.heap.size) wf nL cc own d tys := ⟨B.exec, B.bytes, hml, hfc, fun w hw => hts w (List.mem_cons_of_mem _ hw), rfl, hK, fun Y => va_D.adr (hwf X Y) hD0.self, fun q h => Or.inr h⟩
  exact body _ hC (fun X1 pc lv1 hd hp H locs ls hP hS hl => W.vret B.exec B.bytes hr (fun t ht hW => ⟨⟨X1, rfl, hp, by show va_P D vwCl (wf X1) t.heap; rw [ht]; exact hP⟩, hS.F ht⟩) hS.2.2 hd) s.heap [] _ hP va_S.rf hl
end
section
/-- addresses by places; the classes of int[], boolean[], byte[], int[][], byte[][] -/
abbrev Gx : Type := (Nat → Nat) × ClassId × ClassId × ClassId × ClassId × ClassId
def tyG (G : Gx) : List (ClassId × FieldType) := [(G.2.1, .int), (G.2.2.1, .boolean), (G.2.2.2.1, .byte), (G.2.2.2.2.1, .array .int), (G.2.2.2.2.2, .array .byte)]
def xw (G : Gx) (X : St) : va_W := [(G.1 0, .inr (8, [.ref (G.1 1), .ref (G.1 2), .ref (G.1 3), .ref (G.1 4), .ref (G.1 5), .ref (G.1 6), .ref (G.1 7), .ref (G.1 8)])), (G.1 1, .inr (2, [.ref (G.1 9), .int (X 100 0)])), (G.1 2, .inr (3, [.ref (G.1 10), .ref (G.1 11), .ref (G.1 12), .ref (G.1 13), .ref (G.1 14), .ref (G.1 15), .ref (G.1 16), .ref (G.1 17), .ref (G.1 18), .ref (G.1 19), .ref (G.1 20), .int (X 101 0), .int (X 102 0)])), (G.1 3, .inr (4, [.ref (G.1 21), .ref (G.1 22), .int (X 103 0)])), (G.1 4, .inr (6, [.ref (G.1 23), .ref (G.1 24), .ref (G.1 25), .ref (G.1 26), .ref (G.1 27), .int (X 104 0), .int (X 105 0), .int (X 106 0), .int (X 107 0), .int (X 108 0), .int (X 109 0), .int (X 110 0)])), (G.1 5, .inr (1, [.ref (G.1 28), .ref (G.1 29), .ref (G.1 30), .ref (G.1 31), .int (X 111 0)])), (G.1 6, .inr (0, [.ref (G.1 32), .ref (G.1 33), .ref (G.1 34), .int (X 112 0)])), (G.1 7, .inr (7, [.ref (G.1 35), .ref (G.1 36), .ref (G.1 37), .ref (G.1 38), .ref (G.1 39), .ref (G.1 40), .ref (G.1 41), .int (X 113 0), .int (X 114 0), .int (X 115 0), .int (X 116 0)])), (G.1 8, .inr (5, [.ref (G.1 42), .int (X 117 0), .int (X 118 0), .int (X 119 0)])), (G.1 9, .inl (G.2.1, 6, .inl (X 9))), (G.1 10, .inl (G.2.1, 16, .inl (X 10))), (G.1 11, .inl (G.2.1, 16, .inl (X 11))), (G.1 12, .inl (G.2.1, 16, .inl (X 12))), (G.1 13, .inl (G.2.1, 16, .inl (X 13))), (G.1 14, .inl (G.2.1, 16, .inl (X 14))), (G.1 15, .inl (G.2.1, 16, .inl (X 15))), (G.1 16, .inl (G.2.1, 16, .inl (X 16))), (G.1 17, .inl (G.2.1, 16, .inl (X 17))), (G.1 18, .inl (G.2.2.1, 16, .inl (X 18))), (G.1 19, .inl (G.2.2.1, 16, .inl (X 19))), (G.1 20, .inl (G.2.1, 16, .inl (X 20))), (G.1 21, .inl (G.2.2.2.2.2, 4, .inr (.inr (.inr (.inr (fun i => some (G.1 (43 + i)))))))), (G.1 22, .inl (G.2.1, 4, .inl (X 22))), (G.1 23, .inl (G.2.1, 120, .inl (X 23))), (G.1 24, .inl (G.2.1, 120, .inl (X 24))), (G.1 25, .inl (G.2.1, 120, .inl (X 25))), (G.1 26, .inl (G.2.1, 120, .inl (X 26))), (G.1 27, .inl (G.2.1, 16, .inl (X 27))), (G.1 28, .inl (G.2.1, 16, .inl (X 28))), (G.1 29, .inl (G.2.1, 16, .inl (X 29))), (G.1 30, .inl (G.2.2.2.2.1, 16, .inr (.inr (.inr (.inr (fun i => some (G.1 (47 + i)))))))), (G.1 31, .inl (G.2.1, 8192, .inl (X 31))), (G.1 32, .inl (G.2.1, 12, .inl (X 32))), (G.1 33, .inl (G.2.1, 12, .inl (X 33))), (G.1 34, .inl (G.2.1, 12, .inl (X 34))), (G.1 35, .inl (G.2.1, 16, .inl (X 35))), (G.1 36, .inl (G.2.1, 16, .inl (X 36))), (G.1 37, .inl (G.2.1, 16, .inl (X 37))), (G.1 38, .inl (G.2.1, 16, .inl (X 38))), (G.1 39, .inl (G.2.1, 16, .inl (X 39))), (G.1 40, .inl (G.2.1, 16, .inl (X 40))), (G.1 41, .inl (G.2.1, 16, .inl (X 41))), (G.1 42, .inl (G.2.1, 16, .inl (X 42))), (G.1 43, .inl (G.2.2.2.1, 16, .inl (X 43))), (G.1 44, .inl (G.2.2.2.1, 16, .inl (X 44))), (G.1 45, .inl (G.2.2.2.1, 16, .inl (X 45))), (G.1 46, .inl (G.2.2.2.1, 16, .inl (X 46))), (G.1 47, .inl (G.2.1, 16, .inl (X 47))), (G.1 48, .inl (G.2.1, 16, .inl (X 48))), (G.1 49, .inl (G.2.1, 16, .inl (X 49))), (G.1 50, .inl (G.2.1, 16, .inl (X 50))), (G.1 51, .inl (G.2.1, 16, .inl (X 51))), (G.1 52, .inl (G.2.1, 16, .inl (X 52))), (G.1 53, .inl (G.2.1, 16, .inl (X 53))), (G.1 54, .inl (G.2.1, 16, .inl (X 54))), (G.1 55, .inl (G.2.1, 16, .inl (X 55))), (G.1 56, .inl (G.2.1, 16, .inl (X 56))), (G.1 57, .inl (G.2.1, 16, .inl (X 57))), (G.1 58, .inl (G.2.1, 16, .inl (X 58))), (G.1 59, .inl (G.2.1, 16, .inl (X 59))), (G.1 60, .inl (G.2.1, 16, .inl (X 60))), (G.1 61, .inl (G.2.1, 16, .inl (X 61))), (G.1 62, .inl (G.2.1, 16, .inl (X 62)))]
theorem xw_adr (G : Gx) : wfA (xw G) := fun _ _ => rfl
theorem xe_0 (G : Gx) (X : St) : (xw G X)[0]? = some (G.1 0, .inr (8, [.ref (G.1 1), .ref (G.1 2), .ref (G.1 3), .ref (G.1 4), .ref (G.1 5), .ref (G.1 6), .ref (G.1 7), .ref (G.1 8)])) := rfl
theorem xe_1 (G : Gx) (X : St) : (xw G X)[1]? = some (G.1 1, .inr (2, [.ref (G.1 9), .int (X 100 0)])) := rfl
theorem xe_2 (G : Gx) (X : St) : (xw G X)[2]? = some (G.1 2, .inr (3, [.ref (G.1 10), .ref (G.1 11), .ref (G.1 12), .ref (G.1 13), .ref (G.1 14), .ref (G.1 15), .ref (G.1 16), .ref (G.1 17), .ref (G.1 18), .ref (G.1 19), .ref (G.1 20), .int (X 101 0), .int (X 102 0)])) := rfl
theorem xe_3 (G : Gx) (X : St) : (xw G X)[3]? = some (G.1 3, .inr (4, [.ref (G.1 21), .ref (G.1 22), .int (X 103 0)])) := rfl
theorem xe_4 (G : Gx) (X : St) : (xw G X)[4]? = some (G.1 4, .inr (6, [.ref (G.1 23), .ref (G.1 24), .ref (G.1 25), .ref (G.1 26), .ref (G.1 27), .int (X 104 0), .int (X 105 0), .int (X 106 0), .int (X 107 0), .int (X 108 0), .int (X 109 0), .int (X 110 0)])) := rfl
theorem xe_5 (G : Gx) (X : St) : (xw G X)[5]? = some (G.1 5, .inr (1, [.ref (G.1 28), .ref (G.1 29), .ref (G.1 30), .ref (G.1 31), .int (X 111 0)])) := rfl
theorem xe_6 (G : Gx) (X : St) : (xw G X)[6]? = some (G.1 6, .inr (0, [.ref (G.1 32), .ref (G.1 33), .ref (G.1 34), .int (X 112 0)])) := rfl
theorem xe_7 (G : Gx) (X : St) : (xw G X)[7]? = some (G.1 7, .inr (7, [.ref (G.1 35), .ref (G.1 36), .ref (G.1 37), .ref (G.1 38), .ref (G.1 39), .ref (G.1 40), .ref (G.1 41), .int (X 113 0), .int (X 114 0), .int (X 115 0), .int (X 116 0)])) := rfl
theorem xe_8 (G : Gx) (X : St) : (xw G X)[8]? = some (G.1 8, .inr (5, [.ref (G.1 42), .int (X 117 0), .int (X 118 0), .int (X 119 0)])) := rfl
theorem xf_latest (G : Gx) : isFld (xw G) 1 (G.1 1) 2 1 100 := fun X => ⟨[.ref (G.1 9), .int (X 100 0)], rfl, rfl, fun _ => rfl⟩
theorem xf_ever (G : Gx) : isFld (xw G) 2 (G.1 2) 3 11 101 := fun X => ⟨[.ref (G.1 10), .ref (G.1 11), .ref (G.1 12), .ref (G.1 13), .ref (G.1 14), .ref (G.1 15), .ref (G.1 16), .ref (G.1 17), .ref (G.1 18), .ref (G.1 19), .ref (G.1 20), .int (X 101 0), .int (X 102 0)], rfl, rfl, fun _ => rfl⟩
theorem xf_standing (G : Gx) : isFld (xw G) 2 (G.1 2) 3 12 102 := fun X => ⟨[.ref (G.1 10), .ref (G.1 11), .ref (G.1 12), .ref (G.1 13), .ref (G.1 14), .ref (G.1 15), .ref (G.1 16), .ref (G.1 17), .ref (G.1 18), .ref (G.1 19), .ref (G.1 20), .int (X 101 0), .int (X 102 0)], rfl, rfl, fun _ => rfl⟩
theorem xf_teller (G : Gx) : isFld (xw G) 3 (G.1 3) 4 2 103 := fun X => ⟨[.ref (G.1 21), .ref (G.1 22), .int (X 103 0)], rfl, rfl, fun _ => rfl⟩
theorem xf_going (G : Gx) : isFld (xw G) 4 (G.1 4) 6 5 104 := fun X => ⟨[.ref (G.1 23), .ref (G.1 24), .ref (G.1 25), .ref (G.1 26), .ref (G.1 27), .int (X 104 0), .int (X 105 0), .int (X 106 0), .int (X 107 0), .int (X 108 0), .int (X 109 0), .int (X 110 0)], rfl, rfl, fun _ => rfl⟩
theorem xf_days (G : Gx) : isFld (xw G) 4 (G.1 4) 6 6 105 := fun X => ⟨[.ref (G.1 23), .ref (G.1 24), .ref (G.1 25), .ref (G.1 26), .ref (G.1 27), .int (X 104 0), .int (X 105 0), .int (X 106 0), .int (X 107 0), .int (X 108 0), .int (X 109 0), .int (X 110 0)], rfl, rfl, fun _ => rfl⟩
theorem xf_drawn (G : Gx) : isFld (xw G) 4 (G.1 4) 6 7 106 := fun X => ⟨[.ref (G.1 23), .ref (G.1 24), .ref (G.1 25), .ref (G.1 26), .ref (G.1 27), .int (X 104 0), .int (X 105 0), .int (X 106 0), .int (X 107 0), .int (X 108 0), .int (X 109 0), .int (X 110 0)], rfl, rfl, fun _ => rfl⟩
theorem xf_bouts (G : Gx) : isFld (xw G) 4 (G.1 4) 6 8 107 := fun X => ⟨[.ref (G.1 23), .ref (G.1 24), .ref (G.1 25), .ref (G.1 26), .ref (G.1 27), .int (X 104 0), .int (X 105 0), .int (X 106 0), .int (X 107 0), .int (X 108 0), .int (X 109 0), .int (X 110 0)], rfl, rfl, fun _ => rfl⟩
theorem xf_lacking (G : Gx) : isFld (xw G) 4 (G.1 4) 6 9 108 := fun X => ⟨[.ref (G.1 23), .ref (G.1 24), .ref (G.1 25), .ref (G.1 26), .ref (G.1 27), .int (X 104 0), .int (X 105 0), .int (X 106 0), .int (X 107 0), .int (X 108 0), .int (X 109 0), .int (X 110 0)], rfl, rfl, fun _ => rfl⟩
theorem xf_cost (G : Gx) : isFld (xw G) 4 (G.1 4) 6 10 109 := fun X => ⟨[.ref (G.1 23), .ref (G.1 24), .ref (G.1 25), .ref (G.1 26), .ref (G.1 27), .int (X 104 0), .int (X 105 0), .int (X 106 0), .int (X 107 0), .int (X 108 0), .int (X 109 0), .int (X 110 0)], rfl, rfl, fun _ => rfl⟩
theorem xf_satOut (G : Gx) : isFld (xw G) 4 (G.1 4) 6 11 110 := fun X => ⟨[.ref (G.1 23), .ref (G.1 24), .ref (G.1 25), .ref (G.1 26), .ref (G.1 27), .int (X 104 0), .int (X 105 0), .int (X 106 0), .int (X 107 0), .int (X 108 0), .int (X 109 0), .int (X 110 0)], rfl, rfl, fun _ => rfl⟩
theorem xf_fsize (G : Gx) : isFld (xw G) 5 (G.1 5) 1 4 111 := fun X => ⟨[.ref (G.1 28), .ref (G.1 29), .ref (G.1 30), .ref (G.1 31), .int (X 111 0)], rfl, rfl, fun _ => rfl⟩
theorem xf_lines (G : Gx) : isFld (xw G) 6 (G.1 6) 0 3 112 := fun X => ⟨[.ref (G.1 32), .ref (G.1 33), .ref (G.1 34), .int (X 112 0)], rfl, rfl, fun _ => rfl⟩
theorem xf_wstand (G : Gx) : isFld (xw G) 7 (G.1 7) 7 7 113 := fun X => ⟨[.ref (G.1 35), .ref (G.1 36), .ref (G.1 37), .ref (G.1 38), .ref (G.1 39), .ref (G.1 40), .ref (G.1 41), .int (X 113 0), .int (X 114 0), .int (X 115 0), .int (X 116 0)], rfl, rfl, fun _ => rfl⟩
theorem xf_linesThen (G : Gx) : isFld (xw G) 7 (G.1 7) 7 8 114 := fun X => ⟨[.ref (G.1 35), .ref (G.1 36), .ref (G.1 37), .ref (G.1 38), .ref (G.1 39), .ref (G.1 40), .ref (G.1 41), .int (X 113 0), .int (X 114 0), .int (X 115 0), .int (X 116 0)], rfl, rfl, fun _ => rfl⟩
theorem xf_wtimes (G : Gx) : isFld (xw G) 7 (G.1 7) 7 9 115 := fun X => ⟨[.ref (G.1 35), .ref (G.1 36), .ref (G.1 37), .ref (G.1 38), .ref (G.1 39), .ref (G.1 40), .ref (G.1 41), .int (X 113 0), .int (X 114 0), .int (X 115 0), .int (X 116 0)], rfl, rfl, fun _ => rfl⟩
theorem xf_fresh (G : Gx) : isFld (xw G) 7 (G.1 7) 7 10 116 := fun X => ⟨[.ref (G.1 35), .ref (G.1 36), .ref (G.1 37), .ref (G.1 38), .ref (G.1 39), .ref (G.1 40), .ref (G.1 41), .int (X 113 0), .int (X 114 0), .int (X 115 0), .int (X 116 0)], rfl, rfl, fun _ => rfl⟩
theorem xf_left (G : Gx) : isFld (xw G) 8 (G.1 8) 5 1 117 := fun X => ⟨[.ref (G.1 42), .int (X 117 0), .int (X 118 0), .int (X 119 0)], rfl, rfl, fun _ => rfl⟩
theorem xf_begun (G : Gx) : isFld (xw G) 8 (G.1 8) 5 2 118 := fun X => ⟨[.ref (G.1 42), .int (X 117 0), .int (X 118 0), .int (X 119 0)], rfl, rfl, fun _ => rfl⟩
theorem xf_holder (G : Gx) : isFld (xw G) 8 (G.1 8) 5 3 119 := fun X => ⟨[.ref (G.1 42), .int (X 117 0), .int (X 118 0), .int (X 119 0)], rfl, rfl, fun _ => rfl⟩
theorem xr_log (G : Gx) : isRef (xw G) 0 (G.1 0) 8 0 (G.1 1) := fun X => ⟨_, rfl, rfl⟩
theorem xr_roster (G : Gx) : isRef (xw G) 0 (G.1 0) 8 1 (G.1 2) := fun X => ⟨_, rfl, rfl⟩
theorem xr_sheets (G : Gx) : isRef (xw G) 0 (G.1 0) 8 2 (G.1 3) := fun X => ⟨_, rfl, rfl⟩
theorem xr_tourney (G : Gx) : isRef (xw G) 0 (G.1 0) 8 3 (G.1 4) := fun X => ⟨_, rfl, rfl⟩
theorem xr_fitting (G : Gx) : isRef (xw G) 0 (G.1 0) 8 4 (G.1 5) := fun X => ⟨_, rfl, rfl⟩
theorem xr_custom (G : Gx) : isRef (xw G) 0 (G.1 0) 8 5 (G.1 6) := fun X => ⟨_, rfl, rfl⟩
theorem xr_writing (G : Gx) : isRef (xw G) 0 (G.1 0) 8 6 (G.1 7) := fun X => ⟨_, rfl, rfl⟩
theorem xr_titleRow (G : Gx) : isRef (xw G) 0 (G.1 0) 8 7 (G.1 8) := fun X => ⟨_, rfl, rfl⟩
theorem xr_times (G : Gx) : isRef (xw G) 1 (G.1 1) 2 0 (G.1 9) := fun X => ⟨_, rfl, rfl⟩
theorem xr_kind (G : Gx) : isRef (xw G) 2 (G.1 2) 3 0 (G.1 10) := fun X => ⟨_, rfl, rfl⟩
theorem xr_stable (G : Gx) : isRef (xw G) 2 (G.1 2) 3 1 (G.1 11) := fun X => ⟨_, rfl, rfl⟩
theorem xr_kin (G : Gx) : isRef (xw G) 2 (G.1 2) 3 2 (G.1 12) := fun X => ⟨_, rfl, rfl⟩
theorem xr_rungOf (G : Gx) : isRef (xw G) 2 (G.1 2) 3 3 (G.1 13) := fun X => ⟨_, rfl, rfl⟩
theorem xr_wins (G : Gx) : isRef (xw G) 2 (G.1 2) 3 4 (G.1 14) := fun X => ⟨_, rfl, rfl⟩
theorem xr_losses (G : Gx) : isRef (xw G) 2 (G.1 2) 3 5 (G.1 15) := fun X => ⟨_, rfl, rfl⟩
theorem xr_titles (G : Gx) : isRef (xw G) 2 (G.1 2) 3 6 (G.1 16) := fun X => ⟨_, rfl, rfl⟩
theorem xr_marks (G : Gx) : isRef (xw G) 2 (G.1 2) 3 7 (G.1 17) := fun X => ⟨_, rfl, rfl⟩
theorem xr_gone (G : Gx) : isRef (xw G) 2 (G.1 2) 3 8 (G.1 18) := fun X => ⟨_, rfl, rfl⟩
theorem xr_away (G : Gx) : isRef (xw G) 2 (G.1 2) 3 9 (G.1 19) := fun X => ⟨_, rfl, rfl⟩
theorem xr_board (G : Gx) : isRef (xw G) 2 (G.1 2) 3 10 (G.1 20) := fun X => ⟨_, rfl, rfl⟩
theorem xr_bytes (G : Gx) : isRef (xw G) 3 (G.1 3) 4 0 (G.1 21) := fun X => ⟨_, rfl, rfl⟩
theorem xr_ssize (G : Gx) : isRef (xw G) 3 (G.1 3) 4 1 (G.1 22) := fun X => ⟨_, rfl, rfl⟩
theorem xr_day (G : Gx) : isRef (xw G) 4 (G.1 4) 6 0 (G.1 23) := fun X => ⟨_, rfl, rfl⟩
theorem xr_upper (G : Gx) : isRef (xw G) 4 (G.1 4) 6 1 (G.1 24) := fun X => ⟨_, rfl, rfl⟩
theorem xr_lower (G : Gx) : isRef (xw G) 4 (G.1 4) 6 2 (G.1 25) := fun X => ⟨_, rfl, rfl⟩
theorem xr_winner (G : Gx) : isRef (xw G) 4 (G.1 4) 6 3 (G.1 26) := fun X => ⟨_, rfl, rfl⟩
theorem xr_metBits (G : Gx) : isRef (xw G) 4 (G.1 4) 6 4 (G.1 27) := fun X => ⟨_, rfl, rfl⟩
theorem xr_who (G : Gx) : isRef (xw G) 5 (G.1 5) 1 0 (G.1 28) := fun X => ⟨_, rfl, rfl⟩
theorem xr_mate (G : Gx) : isRef (xw G) 5 (G.1 5) 1 1 (G.1 29) := fun X => ⟨_, rfl, rfl⟩
theorem xr_charge (G : Gx) : isRef (xw G) 5 (G.1 5) 1 2 (G.1 30) := fun X => ⟨_, rfl, rfl⟩
theorem xr_least (G : Gx) : isRef (xw G) 5 (G.1 5) 1 3 (G.1 31) := fun X => ⟨_, rfl, rfl⟩
theorem xr_low (G : Gx) : isRef (xw G) 6 (G.1 6) 0 0 (G.1 32) := fun X => ⟨_, rfl, rfl⟩
theorem xr_high (G : Gx) : isRef (xw G) 6 (G.1 6) 0 1 (G.1 33) := fun X => ⟨_, rfl, rfl⟩
theorem xr_up (G : Gx) : isRef (xw G) 6 (G.1 6) 0 2 (G.1 34) := fun X => ⟨_, rfl, rfl⟩
theorem xr_former (G : Gx) : isRef (xw G) 7 (G.1 7) 7 0 (G.1 35) := fun X => ⟨_, rfl, rfl⟩
theorem xr_before (G : Gx) : isRef (xw G) 7 (G.1 7) 7 1 (G.1 36) := fun X => ⟨_, rfl, rfl⟩
theorem xr_after (G : Gx) : isRef (xw G) 7 (G.1 7) 7 2 (G.1 37) := fun X => ⟨_, rfl, rfl⟩
theorem xr_byLine (G : Gx) : isRef (xw G) 7 (G.1 7) 7 3 (G.1 38) := fun X => ⟨_, rfl, rfl⟩
theorem xr_aside (G : Gx) : isRef (xw G) 7 (G.1 7) 7 4 (G.1 39) := fun X => ⟨_, rfl, rfl⟩
theorem xr_order (G : Gx) : isRef (xw G) 7 (G.1 7) 7 5 (G.1 40) := fun X => ⟨_, rfl, rfl⟩
theorem xr_aims (G : Gx) : isRef (xw G) 7 (G.1 7) 7 6 (G.1 41) := fun X => ⟨_, rfl, rfl⟩
theorem xr_row (G : Gx) : isRef (xw G) 8 (G.1 8) 5 0 (G.1 42) := fun X => ⟨_, rfl, rfl⟩
theorem xa_times (G : Gx) : isRow (xw G) 9 (G.1 9) G.2.1 6 9 := fun X => ⟨rfl, fun _ _ => rfl⟩
theorem xa_kind (G : Gx) : isRow (xw G) 10 (G.1 10) G.2.1 16 10 := fun X => ⟨rfl, fun _ _ => rfl⟩
theorem xa_stable (G : Gx) : isRow (xw G) 11 (G.1 11) G.2.1 16 11 := fun X => ⟨rfl, fun _ _ => rfl⟩
theorem xa_kin (G : Gx) : isRow (xw G) 12 (G.1 12) G.2.1 16 12 := fun X => ⟨rfl, fun _ _ => rfl⟩
theorem xa_rungOf (G : Gx) : isRow (xw G) 13 (G.1 13) G.2.1 16 13 := fun X => ⟨rfl, fun _ _ => rfl⟩
theorem xa_wins (G : Gx) : isRow (xw G) 14 (G.1 14) G.2.1 16 14 := fun X => ⟨rfl, fun _ _ => rfl⟩
theorem xa_losses (G : Gx) : isRow (xw G) 15 (G.1 15) G.2.1 16 15 := fun X => ⟨rfl, fun _ _ => rfl⟩
theorem xa_titles (G : Gx) : isRow (xw G) 16 (G.1 16) G.2.1 16 16 := fun X => ⟨rfl, fun _ _ => rfl⟩
theorem xa_marks (G : Gx) : isRow (xw G) 17 (G.1 17) G.2.1 16 17 := fun X => ⟨rfl, fun _ _ => rfl⟩
theorem xa_gone (G : Gx) : isRow (xw G) 18 (G.1 18) G.2.2.1 16 18 := fun X => ⟨rfl, fun _ _ => rfl⟩
theorem xa_away (G : Gx) : isRow (xw G) 19 (G.1 19) G.2.2.1 16 19 := fun X => ⟨rfl, fun _ _ => rfl⟩
theorem xa_board (G : Gx) : isRow (xw G) 20 (G.1 20) G.2.1 16 20 := fun X => ⟨rfl, fun _ _ => rfl⟩
theorem xa_ssize (G : Gx) : isRow (xw G) 22 (G.1 22) G.2.1 4 22 := fun X => ⟨rfl, fun _ _ => rfl⟩
theorem xa_day (G : Gx) : isRow (xw G) 23 (G.1 23) G.2.1 120 23 := fun X => ⟨rfl, fun _ _ => rfl⟩
theorem xa_upper (G : Gx) : isRow (xw G) 24 (G.1 24) G.2.1 120 24 := fun X => ⟨rfl, fun _ _ => rfl⟩
theorem xa_lower (G : Gx) : isRow (xw G) 25 (G.1 25) G.2.1 120 25 := fun X => ⟨rfl, fun _ _ => rfl⟩
theorem xa_winner (G : Gx) : isRow (xw G) 26 (G.1 26) G.2.1 120 26 := fun X => ⟨rfl, fun _ _ => rfl⟩
theorem xa_metBits (G : Gx) : isRow (xw G) 27 (G.1 27) G.2.1 16 27 := fun X => ⟨rfl, fun _ _ => rfl⟩
theorem xa_who (G : Gx) : isRow (xw G) 28 (G.1 28) G.2.1 16 28 := fun X => ⟨rfl, fun _ _ => rfl⟩
theorem xa_mate (G : Gx) : isRow (xw G) 29 (G.1 29) G.2.1 16 29 := fun X => ⟨rfl, fun _ _ => rfl⟩
theorem xa_least (G : Gx) : isRow (xw G) 31 (G.1 31) G.2.1 8192 31 := fun X => ⟨rfl, fun _ _ => rfl⟩
theorem xa_low (G : Gx) : isRow (xw G) 32 (G.1 32) G.2.1 12 32 := fun X => ⟨rfl, fun _ _ => rfl⟩
theorem xa_high (G : Gx) : isRow (xw G) 33 (G.1 33) G.2.1 12 33 := fun X => ⟨rfl, fun _ _ => rfl⟩
theorem xa_up (G : Gx) : isRow (xw G) 34 (G.1 34) G.2.1 12 34 := fun X => ⟨rfl, fun _ _ => rfl⟩
theorem xa_former (G : Gx) : isRow (xw G) 35 (G.1 35) G.2.1 16 35 := fun X => ⟨rfl, fun _ _ => rfl⟩
theorem xa_before (G : Gx) : isRow (xw G) 36 (G.1 36) G.2.1 16 36 := fun X => ⟨rfl, fun _ _ => rfl⟩
theorem xa_after (G : Gx) : isRow (xw G) 37 (G.1 37) G.2.1 16 37 := fun X => ⟨rfl, fun _ _ => rfl⟩
theorem xa_byLine (G : Gx) : isRow (xw G) 38 (G.1 38) G.2.1 16 38 := fun X => ⟨rfl, fun _ _ => rfl⟩
theorem xa_aside (G : Gx) : isRow (xw G) 39 (G.1 39) G.2.1 16 39 := fun X => ⟨rfl, fun _ _ => rfl⟩
theorem xa_order (G : Gx) : isRow (xw G) 40 (G.1 40) G.2.1 16 40 := fun X => ⟨rfl, fun _ _ => rfl⟩
theorem xa_aims (G : Gx) : isRow (xw G) 41 (G.1 41) G.2.1 16 41 := fun X => ⟨rfl, fun _ _ => rfl⟩
theorem xa_row (G : Gx) : isRow (xw G) 42 (G.1 42) G.2.1 16 42 := fun X => ⟨rfl, fun _ _ => rfl⟩
theorem xg_bytes (G : Gx) : isGrid (xw G) 21 (G.1 21) G.2.2.2.2.2 4 (fun i => G.1 (43 + i)) := fun X => rfl
theorem xi_bytes_0 (G : Gx) : isRow (xw G) 43 (G.1 43) G.2.2.2.1 16 43 := fun X => ⟨rfl, fun _ _ => rfl⟩
theorem xi_bytes_1 (G : Gx) : isRow (xw G) 44 (G.1 44) G.2.2.2.1 16 44 := fun X => ⟨rfl, fun _ _ => rfl⟩
theorem xi_bytes_2 (G : Gx) : isRow (xw G) 45 (G.1 45) G.2.2.2.1 16 45 := fun X => ⟨rfl, fun _ _ => rfl⟩
theorem xi_bytes_3 (G : Gx) : isRow (xw G) 46 (G.1 46) G.2.2.2.1 16 46 := fun X => ⟨rfl, fun _ _ => rfl⟩
theorem xi_bytes (G : Gx) {i : Nat} (hi : i < 4) : isRow (xw G) (43 + i) (G.1 (43 + i)) G.2.2.2.1 16 (43 + i) := by
  rcases (show i = 0 ∨ i = 1 ∨ i = 2 ∨ i = 3 by omega) with rfl | rfl | rfl | rfl
  · exact xi_bytes_0 G
  · exact xi_bytes_1 G
  · exact xi_bytes_2 G
  · exact xi_bytes_3 G
theorem xg_charge (G : Gx) : isGrid (xw G) 30 (G.1 30) G.2.2.2.2.1 16 (fun i => G.1 (47 + i)) := fun X => rfl
theorem xi_charge_0 (G : Gx) : isRow (xw G) 47 (G.1 47) G.2.1 16 47 := fun X => ⟨rfl, fun _ _ => rfl⟩
theorem xi_charge_1 (G : Gx) : isRow (xw G) 48 (G.1 48) G.2.1 16 48 := fun X => ⟨rfl, fun _ _ => rfl⟩
theorem xi_charge_2 (G : Gx) : isRow (xw G) 49 (G.1 49) G.2.1 16 49 := fun X => ⟨rfl, fun _ _ => rfl⟩
theorem xi_charge_3 (G : Gx) : isRow (xw G) 50 (G.1 50) G.2.1 16 50 := fun X => ⟨rfl, fun _ _ => rfl⟩
theorem xi_charge_4 (G : Gx) : isRow (xw G) 51 (G.1 51) G.2.1 16 51 := fun X => ⟨rfl, fun _ _ => rfl⟩
theorem xi_charge_5 (G : Gx) : isRow (xw G) 52 (G.1 52) G.2.1 16 52 := fun X => ⟨rfl, fun _ _ => rfl⟩
theorem xi_charge_6 (G : Gx) : isRow (xw G) 53 (G.1 53) G.2.1 16 53 := fun X => ⟨rfl, fun _ _ => rfl⟩
theorem xi_charge_7 (G : Gx) : isRow (xw G) 54 (G.1 54) G.2.1 16 54 := fun X => ⟨rfl, fun _ _ => rfl⟩
theorem xi_charge_8 (G : Gx) : isRow (xw G) 55 (G.1 55) G.2.1 16 55 := fun X => ⟨rfl, fun _ _ => rfl⟩
theorem xi_charge_9 (G : Gx) : isRow (xw G) 56 (G.1 56) G.2.1 16 56 := fun X => ⟨rfl, fun _ _ => rfl⟩
theorem xi_charge_10 (G : Gx) : isRow (xw G) 57 (G.1 57) G.2.1 16 57 := fun X => ⟨rfl, fun _ _ => rfl⟩
theorem xi_charge_11 (G : Gx) : isRow (xw G) 58 (G.1 58) G.2.1 16 58 := fun X => ⟨rfl, fun _ _ => rfl⟩
theorem xi_charge_12 (G : Gx) : isRow (xw G) 59 (G.1 59) G.2.1 16 59 := fun X => ⟨rfl, fun _ _ => rfl⟩
theorem xi_charge_13 (G : Gx) : isRow (xw G) 60 (G.1 60) G.2.1 16 60 := fun X => ⟨rfl, fun _ _ => rfl⟩
theorem xi_charge_14 (G : Gx) : isRow (xw G) 61 (G.1 61) G.2.1 16 61 := fun X => ⟨rfl, fun _ _ => rfl⟩
theorem xi_charge_15 (G : Gx) : isRow (xw G) 62 (G.1 62) G.2.1 16 62 := fun X => ⟨rfl, fun _ _ => rfl⟩
theorem xi_charge (G : Gx) {i : Nat} (hi : i < 16) : isRow (xw G) (47 + i) (G.1 (47 + i)) G.2.1 16 (47 + i) := by
  rcases (show i = 0 ∨ i = 1 ∨ i = 2 ∨ i = 3 ∨ i = 4 ∨ i = 5 ∨ i = 6 ∨ i = 7 ∨ i = 8 ∨ i = 9 ∨ i = 10 ∨ i = 11 ∨ i = 12 ∨ i = 13 ∨ i = 14 ∨ i = 15 by omega) with rfl | rfl | rfl | rfl | rfl | rfl | rfl | rfl | rfl | rfl | rfl | rfl | rfl | rfl | rfl | rfl
  · exact xi_charge_0 G
  · exact xi_charge_1 G
  · exact xi_charge_2 G
  · exact xi_charge_3 G
  · exact xi_charge_4 G
  · exact xi_charge_5 G
  · exact xi_charge_6 G
  · exact xi_charge_7 G
  · exact xi_charge_8 G
  · exact xi_charge_9 G
  · exact xi_charge_10 G
  · exact xi_charge_11 G
  · exact xi_charge_12 G
  · exact xi_charge_13 G
  · exact xi_charge_14 G
  · exact xi_charge_15 G
theorem xG_latest {K : Cx} {G : Gx} {nL : Nat} {cc : ByteArray} {own : String} {d : Nat} {X : St} {pc : Nat} {lv : List (Nat × Value)} {rest : List Value} (C : XC K (xw G) nL cc own d (tyG G)) {index : Nat} (hlink : Cond.fieldLink own index "RankBoard$Log" "latest" "I" ∈ tA) (hd : decode cc pc = .ok (.getfield index, 3)) (kk : WX K (xw G) nL X (pc + 3) lv (.int (X 100 0) :: rest)) : WX K (xw G) nL X pc lv (.ref (G.1 1) :: rest) := x_getI C (xf_latest G) rfl (by decide) inX2 hlink rfl hd kk
theorem xP_latest {K : Cx} {G : Gx} {nL : Nat} {cc : ByteArray} {own : String} {d : Nat} {X : St} {pc : Nat} {lv : List (Nat × Value)} {rest : List Value} (C : XC K (xw G) nL cc own d (tyG G)) {index : Nat} (hlink : Cond.fieldLink own index "RankBoard$Log" "latest" "I" ∈ tA) {v : Int32} (hd : decode cc pc = .ok (.putfield index, 3)) (kk : WX K (xw G) nL (ux X 100 0 v) (pc + 3) lv rest) : WX K (xw G) nL X pc lv (.int v :: .ref (G.1 1) :: rest) := x_putI C (xf_latest G) rfl (by decide) inX2 tyX2 tyX2_ok nmX2 hlink rfl rfl rfl rfl hd kk
theorem xG_ever {K : Cx} {G : Gx} {nL : Nat} {cc : ByteArray} {own : String} {d : Nat} {X : St} {pc : Nat} {lv : List (Nat × Value)} {rest : List Value} (C : XC K (xw G) nL cc own d (tyG G)) {index : Nat} (hlink : Cond.fieldLink own index "RankBoard$Roster" "ever" "I" ∈ tA) (hd : decode cc pc = .ok (.getfield index, 3)) (kk : WX K (xw G) nL X (pc + 3) lv (.int (X 101 0) :: rest)) : WX K (xw G) nL X pc lv (.ref (G.1 2) :: rest) := x_getI C (xf_ever G) rfl (by decide) inX3 hlink rfl hd kk
theorem xP_ever {K : Cx} {G : Gx} {nL : Nat} {cc : ByteArray} {own : String} {d : Nat} {X : St} {pc : Nat} {lv : List (Nat × Value)} {rest : List Value} (C : XC K (xw G) nL cc own d (tyG G)) {index : Nat} (hlink : Cond.fieldLink own index "RankBoard$Roster" "ever" "I" ∈ tA) {v : Int32} (hd : decode cc pc = .ok (.putfield index, 3)) (kk : WX K (xw G) nL (ux X 101 0 v) (pc + 3) lv rest) : WX K (xw G) nL X pc lv (.int v :: .ref (G.1 2) :: rest) := x_putI C (xf_ever G) rfl (by decide) inX3 tyX3 tyX3_ok nmX3 hlink rfl rfl rfl rfl hd kk
theorem xG_standing {K : Cx} {G : Gx} {nL : Nat} {cc : ByteArray} {own : String} {d : Nat} {X : St} {pc : Nat} {lv : List (Nat × Value)} {rest : List Value} (C : XC K (xw G) nL cc own d (tyG G)) {index : Nat} (hlink : Cond.fieldLink own index "RankBoard$Roster" "standing" "I" ∈ tA) (hd : decode cc pc = .ok (.getfield index, 3)) (kk : WX K (xw G) nL X (pc + 3) lv (.int (X 102 0) :: rest)) : WX K (xw G) nL X pc lv (.ref (G.1 2) :: rest) := x_getI C (xf_standing G) rfl (by decide) inX3 hlink rfl hd kk
theorem xP_standing {K : Cx} {G : Gx} {nL : Nat} {cc : ByteArray} {own : String} {d : Nat} {X : St} {pc : Nat} {lv : List (Nat × Value)} {rest : List Value} (C : XC K (xw G) nL cc own d (tyG G)) {index : Nat} (hlink : Cond.fieldLink own index "RankBoard$Roster" "standing" "I" ∈ tA) {v : Int32} (hd : decode cc pc = .ok (.putfield index, 3)) (kk : WX K (xw G) nL (ux X 102 0 v) (pc + 3) lv rest) : WX K (xw G) nL X pc lv (.int v :: .ref (G.1 2) :: rest) := x_putI C (xf_standing G) rfl (by decide) inX3 tyX3 tyX3_ok nmX3 hlink rfl rfl rfl rfl hd kk
theorem xG_teller {K : Cx} {G : Gx} {nL : Nat} {cc : ByteArray} {own : String} {d : Nat} {X : St} {pc : Nat} {lv : List (Nat × Value)} {rest : List Value} (C : XC K (xw G) nL cc own d (tyG G)) {index : Nat} (hlink : Cond.fieldLink own index "RankBoard$Sheets" "teller" "I" ∈ tA) (hd : decode cc pc = .ok (.getfield index, 3)) (kk : WX K (xw G) nL X (pc + 3) lv (.int (X 103 0) :: rest)) : WX K (xw G) nL X pc lv (.ref (G.1 3) :: rest) := x_getI C (xf_teller G) rfl (by decide) inX4 hlink rfl hd kk
theorem xP_teller {K : Cx} {G : Gx} {nL : Nat} {cc : ByteArray} {own : String} {d : Nat} {X : St} {pc : Nat} {lv : List (Nat × Value)} {rest : List Value} (C : XC K (xw G) nL cc own d (tyG G)) {index : Nat} (hlink : Cond.fieldLink own index "RankBoard$Sheets" "teller" "I" ∈ tA) {v : Int32} (hd : decode cc pc = .ok (.putfield index, 3)) (kk : WX K (xw G) nL (ux X 103 0 v) (pc + 3) lv rest) : WX K (xw G) nL X pc lv (.int v :: .ref (G.1 3) :: rest) := x_putI C (xf_teller G) rfl (by decide) inX4 tyX4 tyX4_ok nmX4 hlink rfl rfl rfl rfl hd kk
theorem xG_going {K : Cx} {G : Gx} {nL : Nat} {cc : ByteArray} {own : String} {d : Nat} {X : St} {pc : Nat} {lv : List (Nat × Value)} {rest : List Value} (C : XC K (xw G) nL cc own d (tyG G)) {index : Nat} (hlink : Cond.fieldLink own index "RankBoard$Tourney" "going" "Z" ∈ tA) (hd : decode cc pc = .ok (.getfield index, 3)) (kk : WX K (xw G) nL X (pc + 3) lv (.int (X 104 0) :: rest)) : WX K (xw G) nL X pc lv (.ref (G.1 4) :: rest) := x_getI C (xf_going G) rfl (by decide) inX6 hlink rfl hd kk
theorem xP_going {K : Cx} {G : Gx} {nL : Nat} {cc : ByteArray} {own : String} {d : Nat} {X : St} {pc : Nat} {lv : List (Nat × Value)} {rest : List Value} (C : XC K (xw G) nL cc own d (tyG G)) {index : Nat} (hlink : Cond.fieldLink own index "RankBoard$Tourney" "going" "Z" ∈ tA) {v : Int32} (hn : narrow .boolean (.int v) = .int v) (hd : decode cc pc = .ok (.putfield index, 3)) (kk : WX K (xw G) nL (ux X 104 0 v) (pc + 3) lv rest) : WX K (xw G) nL X pc lv (.int v :: .ref (G.1 4) :: rest) := x_putI C (xf_going G) rfl (by decide) inX6 tyX6 tyX6_ok nmX6 hlink rfl rfl hn rfl hd kk
theorem xG_days {K : Cx} {G : Gx} {nL : Nat} {cc : ByteArray} {own : String} {d : Nat} {X : St} {pc : Nat} {lv : List (Nat × Value)} {rest : List Value} (C : XC K (xw G) nL cc own d (tyG G)) {index : Nat} (hlink : Cond.fieldLink own index "RankBoard$Tourney" "days" "I" ∈ tA) (hd : decode cc pc = .ok (.getfield index, 3)) (kk : WX K (xw G) nL X (pc + 3) lv (.int (X 105 0) :: rest)) : WX K (xw G) nL X pc lv (.ref (G.1 4) :: rest) := x_getI C (xf_days G) rfl (by decide) inX6 hlink rfl hd kk
theorem xP_days {K : Cx} {G : Gx} {nL : Nat} {cc : ByteArray} {own : String} {d : Nat} {X : St} {pc : Nat} {lv : List (Nat × Value)} {rest : List Value} (C : XC K (xw G) nL cc own d (tyG G)) {index : Nat} (hlink : Cond.fieldLink own index "RankBoard$Tourney" "days" "I" ∈ tA) {v : Int32} (hd : decode cc pc = .ok (.putfield index, 3)) (kk : WX K (xw G) nL (ux X 105 0 v) (pc + 3) lv rest) : WX K (xw G) nL X pc lv (.int v :: .ref (G.1 4) :: rest) := x_putI C (xf_days G) rfl (by decide) inX6 tyX6 tyX6_ok nmX6 hlink rfl rfl rfl rfl hd kk
theorem xG_drawn {K : Cx} {G : Gx} {nL : Nat} {cc : ByteArray} {own : String} {d : Nat} {X : St} {pc : Nat} {lv : List (Nat × Value)} {rest : List Value} (C : XC K (xw G) nL cc own d (tyG G)) {index : Nat} (hlink : Cond.fieldLink own index "RankBoard$Tourney" "drawn" "I" ∈ tA) (hd : decode cc pc = .ok (.getfield index, 3)) (kk : WX K (xw G) nL X (pc + 3) lv (.int (X 106 0) :: rest)) : WX K (xw G) nL X pc lv (.ref (G.1 4) :: rest) := x_getI C (xf_drawn G) rfl (by decide) inX6 hlink rfl hd kk
theorem xP_drawn {K : Cx} {G : Gx} {nL : Nat} {cc : ByteArray} {own : String} {d : Nat} {X : St} {pc : Nat} {lv : List (Nat × Value)} {rest : List Value} (C : XC K (xw G) nL cc own d (tyG G)) {index : Nat} (hlink : Cond.fieldLink own index "RankBoard$Tourney" "drawn" "I" ∈ tA) {v : Int32} (hd : decode cc pc = .ok (.putfield index, 3)) (kk : WX K (xw G) nL (ux X 106 0 v) (pc + 3) lv rest) : WX K (xw G) nL X pc lv (.int v :: .ref (G.1 4) :: rest) := x_putI C (xf_drawn G) rfl (by decide) inX6 tyX6 tyX6_ok nmX6 hlink rfl rfl rfl rfl hd kk
theorem xG_bouts {K : Cx} {G : Gx} {nL : Nat} {cc : ByteArray} {own : String} {d : Nat} {X : St} {pc : Nat} {lv : List (Nat × Value)} {rest : List Value} (C : XC K (xw G) nL cc own d (tyG G)) {index : Nat} (hlink : Cond.fieldLink own index "RankBoard$Tourney" "bouts" "I" ∈ tA) (hd : decode cc pc = .ok (.getfield index, 3)) (kk : WX K (xw G) nL X (pc + 3) lv (.int (X 107 0) :: rest)) : WX K (xw G) nL X pc lv (.ref (G.1 4) :: rest) := x_getI C (xf_bouts G) rfl (by decide) inX6 hlink rfl hd kk
theorem xP_bouts {K : Cx} {G : Gx} {nL : Nat} {cc : ByteArray} {own : String} {d : Nat} {X : St} {pc : Nat} {lv : List (Nat × Value)} {rest : List Value} (C : XC K (xw G) nL cc own d (tyG G)) {index : Nat} (hlink : Cond.fieldLink own index "RankBoard$Tourney" "bouts" "I" ∈ tA) {v : Int32} (hd : decode cc pc = .ok (.putfield index, 3)) (kk : WX K (xw G) nL (ux X 107 0 v) (pc + 3) lv rest) : WX K (xw G) nL X pc lv (.int v :: .ref (G.1 4) :: rest) := x_putI C (xf_bouts G) rfl (by decide) inX6 tyX6 tyX6_ok nmX6 hlink rfl rfl rfl rfl hd kk
theorem xG_lacking {K : Cx} {G : Gx} {nL : Nat} {cc : ByteArray} {own : String} {d : Nat} {X : St} {pc : Nat} {lv : List (Nat × Value)} {rest : List Value} (C : XC K (xw G) nL cc own d (tyG G)) {index : Nat} (hlink : Cond.fieldLink own index "RankBoard$Tourney" "lacking" "I" ∈ tA) (hd : decode cc pc = .ok (.getfield index, 3)) (kk : WX K (xw G) nL X (pc + 3) lv (.int (X 108 0) :: rest)) : WX K (xw G) nL X pc lv (.ref (G.1 4) :: rest) := x_getI C (xf_lacking G) rfl (by decide) inX6 hlink rfl hd kk
theorem xP_lacking {K : Cx} {G : Gx} {nL : Nat} {cc : ByteArray} {own : String} {d : Nat} {X : St} {pc : Nat} {lv : List (Nat × Value)} {rest : List Value} (C : XC K (xw G) nL cc own d (tyG G)) {index : Nat} (hlink : Cond.fieldLink own index "RankBoard$Tourney" "lacking" "I" ∈ tA) {v : Int32} (hd : decode cc pc = .ok (.putfield index, 3)) (kk : WX K (xw G) nL (ux X 108 0 v) (pc + 3) lv rest) : WX K (xw G) nL X pc lv (.int v :: .ref (G.1 4) :: rest) := x_putI C (xf_lacking G) rfl (by decide) inX6 tyX6 tyX6_ok nmX6 hlink rfl rfl rfl rfl hd kk
theorem xG_cost {K : Cx} {G : Gx} {nL : Nat} {cc : ByteArray} {own : String} {d : Nat} {X : St} {pc : Nat} {lv : List (Nat × Value)} {rest : List Value} (C : XC K (xw G) nL cc own d (tyG G)) {index : Nat} (hlink : Cond.fieldLink own index "RankBoard$Tourney" "cost" "I" ∈ tA) (hd : decode cc pc = .ok (.getfield index, 3)) (kk : WX K (xw G) nL X (pc + 3) lv (.int (X 109 0) :: rest)) : WX K (xw G) nL X pc lv (.ref (G.1 4) :: rest) := x_getI C (xf_cost G) rfl (by decide) inX6 hlink rfl hd kk
theorem xP_cost {K : Cx} {G : Gx} {nL : Nat} {cc : ByteArray} {own : String} {d : Nat} {X : St} {pc : Nat} {lv : List (Nat × Value)} {rest : List Value} (C : XC K (xw G) nL cc own d (tyG G)) {index : Nat} (hlink : Cond.fieldLink own index "RankBoard$Tourney" "cost" "I" ∈ tA) {v : Int32} (hd : decode cc pc = .ok (.putfield index, 3)) (kk : WX K (xw G) nL (ux X 109 0 v) (pc + 3) lv rest) : WX K (xw G) nL X pc lv (.int v :: .ref (G.1 4) :: rest) := x_putI C (xf_cost G) rfl (by decide) inX6 tyX6 tyX6_ok nmX6 hlink rfl rfl rfl rfl hd kk
theorem xG_satOut {K : Cx} {G : Gx} {nL : Nat} {cc : ByteArray} {own : String} {d : Nat} {X : St} {pc : Nat} {lv : List (Nat × Value)} {rest : List Value} (C : XC K (xw G) nL cc own d (tyG G)) {index : Nat} (hlink : Cond.fieldLink own index "RankBoard$Tourney" "satOut" "I" ∈ tA) (hd : decode cc pc = .ok (.getfield index, 3)) (kk : WX K (xw G) nL X (pc + 3) lv (.int (X 110 0) :: rest)) : WX K (xw G) nL X pc lv (.ref (G.1 4) :: rest) := x_getI C (xf_satOut G) rfl (by decide) inX6 hlink rfl hd kk
theorem xP_satOut {K : Cx} {G : Gx} {nL : Nat} {cc : ByteArray} {own : String} {d : Nat} {X : St} {pc : Nat} {lv : List (Nat × Value)} {rest : List Value} (C : XC K (xw G) nL cc own d (tyG G)) {index : Nat} (hlink : Cond.fieldLink own index "RankBoard$Tourney" "satOut" "I" ∈ tA) {v : Int32} (hd : decode cc pc = .ok (.putfield index, 3)) (kk : WX K (xw G) nL (ux X 110 0 v) (pc + 3) lv rest) : WX K (xw G) nL X pc lv (.int v :: .ref (G.1 4) :: rest) := x_putI C (xf_satOut G) rfl (by decide) inX6 tyX6 tyX6_ok nmX6 hlink rfl rfl rfl rfl hd kk
theorem xG_fsize {K : Cx} {G : Gx} {nL : Nat} {cc : ByteArray} {own : String} {d : Nat} {X : St} {pc : Nat} {lv : List (Nat × Value)} {rest : List Value} (C : XC K (xw G) nL cc own d (tyG G)) {index : Nat} (hlink : Cond.fieldLink own index "RankBoard$Fitting" "size" "I" ∈ tA) (hd : decode cc pc = .ok (.getfield index, 3)) (kk : WX K (xw G) nL X (pc + 3) lv (.int (X 111 0) :: rest)) : WX K (xw G) nL X pc lv (.ref (G.1 5) :: rest) := x_getI C (xf_fsize G) rfl (by decide) inX1 hlink rfl hd kk
theorem xP_fsize {K : Cx} {G : Gx} {nL : Nat} {cc : ByteArray} {own : String} {d : Nat} {X : St} {pc : Nat} {lv : List (Nat × Value)} {rest : List Value} (C : XC K (xw G) nL cc own d (tyG G)) {index : Nat} (hlink : Cond.fieldLink own index "RankBoard$Fitting" "size" "I" ∈ tA) {v : Int32} (hd : decode cc pc = .ok (.putfield index, 3)) (kk : WX K (xw G) nL (ux X 111 0 v) (pc + 3) lv rest) : WX K (xw G) nL X pc lv (.int v :: .ref (G.1 5) :: rest) := x_putI C (xf_fsize G) rfl (by decide) inX1 tyX1 tyX1_ok nmX1 hlink rfl rfl rfl rfl hd kk
theorem xG_lines {K : Cx} {G : Gx} {nL : Nat} {cc : ByteArray} {own : String} {d : Nat} {X : St} {pc : Nat} {lv : List (Nat × Value)} {rest : List Value} (C : XC K (xw G) nL cc own d (tyG G)) {index : Nat} (hlink : Cond.fieldLink own index "RankBoard$Custom" "lines" "I" ∈ tA) (hd : decode cc pc = .ok (.getfield index, 3)) (kk : WX K (xw G) nL X (pc + 3) lv (.int (X 112 0) :: rest)) : WX K (xw G) nL X pc lv (.ref (G.1 6) :: rest) := x_getI C (xf_lines G) rfl (by decide) inX0 hlink rfl hd kk
theorem xP_lines {K : Cx} {G : Gx} {nL : Nat} {cc : ByteArray} {own : String} {d : Nat} {X : St} {pc : Nat} {lv : List (Nat × Value)} {rest : List Value} (C : XC K (xw G) nL cc own d (tyG G)) {index : Nat} (hlink : Cond.fieldLink own index "RankBoard$Custom" "lines" "I" ∈ tA) {v : Int32} (hd : decode cc pc = .ok (.putfield index, 3)) (kk : WX K (xw G) nL (ux X 112 0 v) (pc + 3) lv rest) : WX K (xw G) nL X pc lv (.int v :: .ref (G.1 6) :: rest) := x_putI C (xf_lines G) rfl (by decide) inX0 tyX0 tyX0_ok nmX0 hlink rfl rfl rfl rfl hd kk
theorem xG_wstand {K : Cx} {G : Gx} {nL : Nat} {cc : ByteArray} {own : String} {d : Nat} {X : St} {pc : Nat} {lv : List (Nat × Value)} {rest : List Value} (C : XC K (xw G) nL cc own d (tyG G)) {index : Nat} (hlink : Cond.fieldLink own index "RankBoard$Writing" "standing" "I" ∈ tA) (hd : decode cc pc = .ok (.getfield index, 3)) (kk : WX K (xw G) nL X (pc + 3) lv (.int (X 113 0) :: rest)) : WX K (xw G) nL X pc lv (.ref (G.1 7) :: rest) := x_getI C (xf_wstand G) rfl (by decide) inX7 hlink rfl hd kk
theorem xP_wstand {K : Cx} {G : Gx} {nL : Nat} {cc : ByteArray} {own : String} {d : Nat} {X : St} {pc : Nat} {lv : List (Nat × Value)} {rest : List Value} (C : XC K (xw G) nL cc own d (tyG G)) {index : Nat} (hlink : Cond.fieldLink own index "RankBoard$Writing" "standing" "I" ∈ tA) {v : Int32} (hd : decode cc pc = .ok (.putfield index, 3)) (kk : WX K (xw G) nL (ux X 113 0 v) (pc + 3) lv rest) : WX K (xw G) nL X pc lv (.int v :: .ref (G.1 7) :: rest) := x_putI C (xf_wstand G) rfl (by decide) inX7 tyX7 tyX7_ok nmX7 hlink rfl rfl rfl rfl hd kk
theorem xG_linesThen {K : Cx} {G : Gx} {nL : Nat} {cc : ByteArray} {own : String} {d : Nat} {X : St} {pc : Nat} {lv : List (Nat × Value)} {rest : List Value} (C : XC K (xw G) nL cc own d (tyG G)) {index : Nat} (hlink : Cond.fieldLink own index "RankBoard$Writing" "linesThen" "I" ∈ tA) (hd : decode cc pc = .ok (.getfield index, 3)) (kk : WX K (xw G) nL X (pc + 3) lv (.int (X 114 0) :: rest)) : WX K (xw G) nL X pc lv (.ref (G.1 7) :: rest) := x_getI C (xf_linesThen G) rfl (by decide) inX7 hlink rfl hd kk
theorem xP_linesThen {K : Cx} {G : Gx} {nL : Nat} {cc : ByteArray} {own : String} {d : Nat} {X : St} {pc : Nat} {lv : List (Nat × Value)} {rest : List Value} (C : XC K (xw G) nL cc own d (tyG G)) {index : Nat} (hlink : Cond.fieldLink own index "RankBoard$Writing" "linesThen" "I" ∈ tA) {v : Int32} (hd : decode cc pc = .ok (.putfield index, 3)) (kk : WX K (xw G) nL (ux X 114 0 v) (pc + 3) lv rest) : WX K (xw G) nL X pc lv (.int v :: .ref (G.1 7) :: rest) := x_putI C (xf_linesThen G) rfl (by decide) inX7 tyX7 tyX7_ok nmX7 hlink rfl rfl rfl rfl hd kk
theorem xG_wtimes {K : Cx} {G : Gx} {nL : Nat} {cc : ByteArray} {own : String} {d : Nat} {X : St} {pc : Nat} {lv : List (Nat × Value)} {rest : List Value} (C : XC K (xw G) nL cc own d (tyG G)) {index : Nat} (hlink : Cond.fieldLink own index "RankBoard$Writing" "times" "I" ∈ tA) (hd : decode cc pc = .ok (.getfield index, 3)) (kk : WX K (xw G) nL X (pc + 3) lv (.int (X 115 0) :: rest)) : WX K (xw G) nL X pc lv (.ref (G.1 7) :: rest) := x_getI C (xf_wtimes G) rfl (by decide) inX7 hlink rfl hd kk
theorem xP_wtimes {K : Cx} {G : Gx} {nL : Nat} {cc : ByteArray} {own : String} {d : Nat} {X : St} {pc : Nat} {lv : List (Nat × Value)} {rest : List Value} (C : XC K (xw G) nL cc own d (tyG G)) {index : Nat} (hlink : Cond.fieldLink own index "RankBoard$Writing" "times" "I" ∈ tA) {v : Int32} (hd : decode cc pc = .ok (.putfield index, 3)) (kk : WX K (xw G) nL (ux X 115 0 v) (pc + 3) lv rest) : WX K (xw G) nL X pc lv (.int v :: .ref (G.1 7) :: rest) := x_putI C (xf_wtimes G) rfl (by decide) inX7 tyX7 tyX7_ok nmX7 hlink rfl rfl rfl rfl hd kk
theorem xG_fresh {K : Cx} {G : Gx} {nL : Nat} {cc : ByteArray} {own : String} {d : Nat} {X : St} {pc : Nat} {lv : List (Nat × Value)} {rest : List Value} (C : XC K (xw G) nL cc own d (tyG G)) {index : Nat} (hlink : Cond.fieldLink own index "RankBoard$Writing" "fresh" "Z" ∈ tA) (hd : decode cc pc = .ok (.getfield index, 3)) (kk : WX K (xw G) nL X (pc + 3) lv (.int (X 116 0) :: rest)) : WX K (xw G) nL X pc lv (.ref (G.1 7) :: rest) := x_getI C (xf_fresh G) rfl (by decide) inX7 hlink rfl hd kk
theorem xP_fresh {K : Cx} {G : Gx} {nL : Nat} {cc : ByteArray} {own : String} {d : Nat} {X : St} {pc : Nat} {lv : List (Nat × Value)} {rest : List Value} (C : XC K (xw G) nL cc own d (tyG G)) {index : Nat} (hlink : Cond.fieldLink own index "RankBoard$Writing" "fresh" "Z" ∈ tA) {v : Int32} (hn : narrow .boolean (.int v) = .int v) (hd : decode cc pc = .ok (.putfield index, 3)) (kk : WX K (xw G) nL (ux X 116 0 v) (pc + 3) lv rest) : WX K (xw G) nL X pc lv (.int v :: .ref (G.1 7) :: rest) := x_putI C (xf_fresh G) rfl (by decide) inX7 tyX7 tyX7_ok nmX7 hlink rfl rfl hn rfl hd kk
theorem xG_left {K : Cx} {G : Gx} {nL : Nat} {cc : ByteArray} {own : String} {d : Nat} {X : St} {pc : Nat} {lv : List (Nat × Value)} {rest : List Value} (C : XC K (xw G) nL cc own d (tyG G)) {index : Nat} (hlink : Cond.fieldLink own index "RankBoard$TitleRow" "left" "I" ∈ tA) (hd : decode cc pc = .ok (.getfield index, 3)) (kk : WX K (xw G) nL X (pc + 3) lv (.int (X 117 0) :: rest)) : WX K (xw G) nL X pc lv (.ref (G.1 8) :: rest) := x_getI C (xf_left G) rfl (by decide) inX5 hlink rfl hd kk
theorem xP_left {K : Cx} {G : Gx} {nL : Nat} {cc : ByteArray} {own : String} {d : Nat} {X : St} {pc : Nat} {lv : List (Nat × Value)} {rest : List Value} (C : XC K (xw G) nL cc own d (tyG G)) {index : Nat} (hlink : Cond.fieldLink own index "RankBoard$TitleRow" "left" "I" ∈ tA) {v : Int32} (hd : decode cc pc = .ok (.putfield index, 3)) (kk : WX K (xw G) nL (ux X 117 0 v) (pc + 3) lv rest) : WX K (xw G) nL X pc lv (.int v :: .ref (G.1 8) :: rest) := x_putI C (xf_left G) rfl (by decide) inX5 tyX5 tyX5_ok nmX5 hlink rfl rfl rfl rfl hd kk
theorem xG_begun {K : Cx} {G : Gx} {nL : Nat} {cc : ByteArray} {own : String} {d : Nat} {X : St} {pc : Nat} {lv : List (Nat × Value)} {rest : List Value} (C : XC K (xw G) nL cc own d (tyG G)) {index : Nat} (hlink : Cond.fieldLink own index "RankBoard$TitleRow" "begun" "Z" ∈ tA) (hd : decode cc pc = .ok (.getfield index, 3)) (kk : WX K (xw G) nL X (pc + 3) lv (.int (X 118 0) :: rest)) : WX K (xw G) nL X pc lv (.ref (G.1 8) :: rest) := x_getI C (xf_begun G) rfl (by decide) inX5 hlink rfl hd kk
theorem xP_begun {K : Cx} {G : Gx} {nL : Nat} {cc : ByteArray} {own : String} {d : Nat} {X : St} {pc : Nat} {lv : List (Nat × Value)} {rest : List Value} (C : XC K (xw G) nL cc own d (tyG G)) {index : Nat} (hlink : Cond.fieldLink own index "RankBoard$TitleRow" "begun" "Z" ∈ tA) {v : Int32} (hn : narrow .boolean (.int v) = .int v) (hd : decode cc pc = .ok (.putfield index, 3)) (kk : WX K (xw G) nL (ux X 118 0 v) (pc + 3) lv rest) : WX K (xw G) nL X pc lv (.int v :: .ref (G.1 8) :: rest) := x_putI C (xf_begun G) rfl (by decide) inX5 tyX5 tyX5_ok nmX5 hlink rfl rfl hn rfl hd kk
theorem xG_holder {K : Cx} {G : Gx} {nL : Nat} {cc : ByteArray} {own : String} {d : Nat} {X : St} {pc : Nat} {lv : List (Nat × Value)} {rest : List Value} (C : XC K (xw G) nL cc own d (tyG G)) {index : Nat} (hlink : Cond.fieldLink own index "RankBoard$TitleRow" "holder" "I" ∈ tA) (hd : decode cc pc = .ok (.getfield index, 3)) (kk : WX K (xw G) nL X (pc + 3) lv (.int (X 119 0) :: rest)) : WX K (xw G) nL X pc lv (.ref (G.1 8) :: rest) := x_getI C (xf_holder G) rfl (by decide) inX5 hlink rfl hd kk
theorem xP_holder {K : Cx} {G : Gx} {nL : Nat} {cc : ByteArray} {own : String} {d : Nat} {X : St} {pc : Nat} {lv : List (Nat × Value)} {rest : List Value} (C : XC K (xw G) nL cc own d (tyG G)) {index : Nat} (hlink : Cond.fieldLink own index "RankBoard$TitleRow" "holder" "I" ∈ tA) {v : Int32} (hd : decode cc pc = .ok (.putfield index, 3)) (kk : WX K (xw G) nL (ux X 119 0 v) (pc + 3) lv rest) : WX K (xw G) nL X pc lv (.int v :: .ref (G.1 8) :: rest) := x_putI C (xf_holder G) rfl (by decide) inX5 tyX5 tyX5_ok nmX5 hlink rfl rfl rfl rfl hd kk
theorem xG_log {K : Cx} {G : Gx} {nL : Nat} {cc : ByteArray} {own : String} {d : Nat} {X : St} {pc : Nat} {lv : List (Nat × Value)} {rest : List Value} (C : XC K (xw G) nL cc own d (tyG G)) {index : Nat} (hlink : Cond.fieldLink own index "RankBoard" "log" "LRankBoard$Log;" ∈ tA) (hd : decode cc pc = .ok (.getfield index, 3)) (kk : WX K (xw G) nL X (pc + 3) lv (.ref (G.1 1) :: rest)) : WX K (xw G) nL X pc lv (.ref (G.1 0) :: rest) := x_getR C (xr_log G) rfl (by decide) inX8 hlink rfl hd kk
theorem xG_roster {K : Cx} {G : Gx} {nL : Nat} {cc : ByteArray} {own : String} {d : Nat} {X : St} {pc : Nat} {lv : List (Nat × Value)} {rest : List Value} (C : XC K (xw G) nL cc own d (tyG G)) {index : Nat} (hlink : Cond.fieldLink own index "RankBoard" "roster" "LRankBoard$Roster;" ∈ tA) (hd : decode cc pc = .ok (.getfield index, 3)) (kk : WX K (xw G) nL X (pc + 3) lv (.ref (G.1 2) :: rest)) : WX K (xw G) nL X pc lv (.ref (G.1 0) :: rest) := x_getR C (xr_roster G) rfl (by decide) inX8 hlink rfl hd kk
theorem xG_sheets {K : Cx} {G : Gx} {nL : Nat} {cc : ByteArray} {own : String} {d : Nat} {X : St} {pc : Nat} {lv : List (Nat × Value)} {rest : List Value} (C : XC K (xw G) nL cc own d (tyG G)) {index : Nat} (hlink : Cond.fieldLink own index "RankBoard" "sheets" "LRankBoard$Sheets;" ∈ tA) (hd : decode cc pc = .ok (.getfield index, 3)) (kk : WX K (xw G) nL X (pc + 3) lv (.ref (G.1 3) :: rest)) : WX K (xw G) nL X pc lv (.ref (G.1 0) :: rest) := x_getR C (xr_sheets G) rfl (by decide) inX8 hlink rfl hd kk
theorem xG_tourney {K : Cx} {G : Gx} {nL : Nat} {cc : ByteArray} {own : String} {d : Nat} {X : St} {pc : Nat} {lv : List (Nat × Value)} {rest : List Value} (C : XC K (xw G) nL cc own d (tyG G)) {index : Nat} (hlink : Cond.fieldLink own index "RankBoard" "tourney" "LRankBoard$Tourney;" ∈ tA) (hd : decode cc pc = .ok (.getfield index, 3)) (kk : WX K (xw G) nL X (pc + 3) lv (.ref (G.1 4) :: rest)) : WX K (xw G) nL X pc lv (.ref (G.1 0) :: rest) := x_getR C (xr_tourney G) rfl (by decide) inX8 hlink rfl hd kk
theorem xG_fitting {K : Cx} {G : Gx} {nL : Nat} {cc : ByteArray} {own : String} {d : Nat} {X : St} {pc : Nat} {lv : List (Nat × Value)} {rest : List Value} (C : XC K (xw G) nL cc own d (tyG G)) {index : Nat} (hlink : Cond.fieldLink own index "RankBoard" "fitting" "LRankBoard$Fitting;" ∈ tA) (hd : decode cc pc = .ok (.getfield index, 3)) (kk : WX K (xw G) nL X (pc + 3) lv (.ref (G.1 5) :: rest)) : WX K (xw G) nL X pc lv (.ref (G.1 0) :: rest) := x_getR C (xr_fitting G) rfl (by decide) inX8 hlink rfl hd kk
theorem xG_custom {K : Cx} {G : Gx} {nL : Nat} {cc : ByteArray} {own : String} {d : Nat} {X : St} {pc : Nat} {lv : List (Nat × Value)} {rest : List Value} (C : XC K (xw G) nL cc own d (tyG G)) {index : Nat} (hlink : Cond.fieldLink own index "RankBoard" "custom" "LRankBoard$Custom;" ∈ tA) (hd : decode cc pc = .ok (.getfield index, 3)) (kk : WX K (xw G) nL X (pc + 3) lv (.ref (G.1 6) :: rest)) : WX K (xw G) nL X pc lv (.ref (G.1 0) :: rest) := x_getR C (xr_custom G) rfl (by decide) inX8 hlink rfl hd kk
theorem xG_writing {K : Cx} {G : Gx} {nL : Nat} {cc : ByteArray} {own : String} {d : Nat} {X : St} {pc : Nat} {lv : List (Nat × Value)} {rest : List Value} (C : XC K (xw G) nL cc own d (tyG G)) {index : Nat} (hlink : Cond.fieldLink own index "RankBoard" "writing" "LRankBoard$Writing;" ∈ tA) (hd : decode cc pc = .ok (.getfield index, 3)) (kk : WX K (xw G) nL X (pc + 3) lv (.ref (G.1 7) :: rest)) : WX K (xw G) nL X pc lv (.ref (G.1 0) :: rest) := x_getR C (xr_writing G) rfl (by decide) inX8 hlink rfl hd kk
theorem xG_titleRow {K : Cx} {G : Gx} {nL : Nat} {cc : ByteArray} {own : String} {d : Nat} {X : St} {pc : Nat} {lv : List (Nat × Value)} {rest : List Value} (C : XC K (xw G) nL cc own d (tyG G)) {index : Nat} (hlink : Cond.fieldLink own index "RankBoard" "titleRow" "LRankBoard$TitleRow;" ∈ tA) (hd : decode cc pc = .ok (.getfield index, 3)) (kk : WX K (xw G) nL X (pc + 3) lv (.ref (G.1 8) :: rest)) : WX K (xw G) nL X pc lv (.ref (G.1 0) :: rest) := x_getR C (xr_titleRow G) rfl (by decide) inX8 hlink rfl hd kk
theorem xG_times {K : Cx} {G : Gx} {nL : Nat} {cc : ByteArray} {own : String} {d : Nat} {X : St} {pc : Nat} {lv : List (Nat × Value)} {rest : List Value} (C : XC K (xw G) nL cc own d (tyG G)) {index : Nat} (hlink : Cond.fieldLink own index "RankBoard$Log" "times" "[I" ∈ tA) (hd : decode cc pc = .ok (.getfield index, 3)) (kk : WX K (xw G) nL X (pc + 3) lv (.ref (G.1 9) :: rest)) : WX K (xw G) nL X pc lv (.ref (G.1 1) :: rest) := x_getR C (xr_times G) rfl (by decide) inX2 hlink rfl hd kk
theorem xG_kind {K : Cx} {G : Gx} {nL : Nat} {cc : ByteArray} {own : String} {d : Nat} {X : St} {pc : Nat} {lv : List (Nat × Value)} {rest : List Value} (C : XC K (xw G) nL cc own d (tyG G)) {index : Nat} (hlink : Cond.fieldLink own index "RankBoard$Roster" "kind" "[I" ∈ tA) (hd : decode cc pc = .ok (.getfield index, 3)) (kk : WX K (xw G) nL X (pc + 3) lv (.ref (G.1 10) :: rest)) : WX K (xw G) nL X pc lv (.ref (G.1 2) :: rest) := x_getR C (xr_kind G) rfl (by decide) inX3 hlink rfl hd kk
theorem xG_stable {K : Cx} {G : Gx} {nL : Nat} {cc : ByteArray} {own : String} {d : Nat} {X : St} {pc : Nat} {lv : List (Nat × Value)} {rest : List Value} (C : XC K (xw G) nL cc own d (tyG G)) {index : Nat} (hlink : Cond.fieldLink own index "RankBoard$Roster" "stable" "[I" ∈ tA) (hd : decode cc pc = .ok (.getfield index, 3)) (kk : WX K (xw G) nL X (pc + 3) lv (.ref (G.1 11) :: rest)) : WX K (xw G) nL X pc lv (.ref (G.1 2) :: rest) := x_getR C (xr_stable G) rfl (by decide) inX3 hlink rfl hd kk
theorem xG_kin {K : Cx} {G : Gx} {nL : Nat} {cc : ByteArray} {own : String} {d : Nat} {X : St} {pc : Nat} {lv : List (Nat × Value)} {rest : List Value} (C : XC K (xw G) nL cc own d (tyG G)) {index : Nat} (hlink : Cond.fieldLink own index "RankBoard$Roster" "kin" "[I" ∈ tA) (hd : decode cc pc = .ok (.getfield index, 3)) (kk : WX K (xw G) nL X (pc + 3) lv (.ref (G.1 12) :: rest)) : WX K (xw G) nL X pc lv (.ref (G.1 2) :: rest) := x_getR C (xr_kin G) rfl (by decide) inX3 hlink rfl hd kk
theorem xG_rungOf {K : Cx} {G : Gx} {nL : Nat} {cc : ByteArray} {own : String} {d : Nat} {X : St} {pc : Nat} {lv : List (Nat × Value)} {rest : List Value} (C : XC K (xw G) nL cc own d (tyG G)) {index : Nat} (hlink : Cond.fieldLink own index "RankBoard$Roster" "rungOf" "[I" ∈ tA) (hd : decode cc pc = .ok (.getfield index, 3)) (kk : WX K (xw G) nL X (pc + 3) lv (.ref (G.1 13) :: rest)) : WX K (xw G) nL X pc lv (.ref (G.1 2) :: rest) := x_getR C (xr_rungOf G) rfl (by decide) inX3 hlink rfl hd kk
theorem xG_wins {K : Cx} {G : Gx} {nL : Nat} {cc : ByteArray} {own : String} {d : Nat} {X : St} {pc : Nat} {lv : List (Nat × Value)} {rest : List Value} (C : XC K (xw G) nL cc own d (tyG G)) {index : Nat} (hlink : Cond.fieldLink own index "RankBoard$Roster" "wins" "[I" ∈ tA) (hd : decode cc pc = .ok (.getfield index, 3)) (kk : WX K (xw G) nL X (pc + 3) lv (.ref (G.1 14) :: rest)) : WX K (xw G) nL X pc lv (.ref (G.1 2) :: rest) := x_getR C (xr_wins G) rfl (by decide) inX3 hlink rfl hd kk
theorem xG_losses {K : Cx} {G : Gx} {nL : Nat} {cc : ByteArray} {own : String} {d : Nat} {X : St} {pc : Nat} {lv : List (Nat × Value)} {rest : List Value} (C : XC K (xw G) nL cc own d (tyG G)) {index : Nat} (hlink : Cond.fieldLink own index "RankBoard$Roster" "losses" "[I" ∈ tA) (hd : decode cc pc = .ok (.getfield index, 3)) (kk : WX K (xw G) nL X (pc + 3) lv (.ref (G.1 15) :: rest)) : WX K (xw G) nL X pc lv (.ref (G.1 2) :: rest) := x_getR C (xr_losses G) rfl (by decide) inX3 hlink rfl hd kk
theorem xG_titles {K : Cx} {G : Gx} {nL : Nat} {cc : ByteArray} {own : String} {d : Nat} {X : St} {pc : Nat} {lv : List (Nat × Value)} {rest : List Value} (C : XC K (xw G) nL cc own d (tyG G)) {index : Nat} (hlink : Cond.fieldLink own index "RankBoard$Roster" "titles" "[I" ∈ tA) (hd : decode cc pc = .ok (.getfield index, 3)) (kk : WX K (xw G) nL X (pc + 3) lv (.ref (G.1 16) :: rest)) : WX K (xw G) nL X pc lv (.ref (G.1 2) :: rest) := x_getR C (xr_titles G) rfl (by decide) inX3 hlink rfl hd kk
theorem xG_marks {K : Cx} {G : Gx} {nL : Nat} {cc : ByteArray} {own : String} {d : Nat} {X : St} {pc : Nat} {lv : List (Nat × Value)} {rest : List Value} (C : XC K (xw G) nL cc own d (tyG G)) {index : Nat} (hlink : Cond.fieldLink own index "RankBoard$Roster" "marks" "[I" ∈ tA) (hd : decode cc pc = .ok (.getfield index, 3)) (kk : WX K (xw G) nL X (pc + 3) lv (.ref (G.1 17) :: rest)) : WX K (xw G) nL X pc lv (.ref (G.1 2) :: rest) := x_getR C (xr_marks G) rfl (by decide) inX3 hlink rfl hd kk
theorem xG_gone {K : Cx} {G : Gx} {nL : Nat} {cc : ByteArray} {own : String} {d : Nat} {X : St} {pc : Nat} {lv : List (Nat × Value)} {rest : List Value} (C : XC K (xw G) nL cc own d (tyG G)) {index : Nat} (hlink : Cond.fieldLink own index "RankBoard$Roster" "gone" "[Z" ∈ tA) (hd : decode cc pc = .ok (.getfield index, 3)) (kk : WX K (xw G) nL X (pc + 3) lv (.ref (G.1 18) :: rest)) : WX K (xw G) nL X pc lv (.ref (G.1 2) :: rest) := x_getR C (xr_gone G) rfl (by decide) inX3 hlink rfl hd kk
theorem xG_away {K : Cx} {G : Gx} {nL : Nat} {cc : ByteArray} {own : String} {d : Nat} {X : St} {pc : Nat} {lv : List (Nat × Value)} {rest : List Value} (C : XC K (xw G) nL cc own d (tyG G)) {index : Nat} (hlink : Cond.fieldLink own index "RankBoard$Roster" "away" "[Z" ∈ tA) (hd : decode cc pc = .ok (.getfield index, 3)) (kk : WX K (xw G) nL X (pc + 3) lv (.ref (G.1 19) :: rest)) : WX K (xw G) nL X pc lv (.ref (G.1 2) :: rest) := x_getR C (xr_away G) rfl (by decide) inX3 hlink rfl hd kk
theorem xG_board {K : Cx} {G : Gx} {nL : Nat} {cc : ByteArray} {own : String} {d : Nat} {X : St} {pc : Nat} {lv : List (Nat × Value)} {rest : List Value} (C : XC K (xw G) nL cc own d (tyG G)) {index : Nat} (hlink : Cond.fieldLink own index "RankBoard$Roster" "board" "[I" ∈ tA) (hd : decode cc pc = .ok (.getfield index, 3)) (kk : WX K (xw G) nL X (pc + 3) lv (.ref (G.1 20) :: rest)) : WX K (xw G) nL X pc lv (.ref (G.1 2) :: rest) := x_getR C (xr_board G) rfl (by decide) inX3 hlink rfl hd kk
theorem xG_bytes {K : Cx} {G : Gx} {nL : Nat} {cc : ByteArray} {own : String} {d : Nat} {X : St} {pc : Nat} {lv : List (Nat × Value)} {rest : List Value} (C : XC K (xw G) nL cc own d (tyG G)) {index : Nat} (hlink : Cond.fieldLink own index "RankBoard$Sheets" "bytes" "[[B" ∈ tA) (hd : decode cc pc = .ok (.getfield index, 3)) (kk : WX K (xw G) nL X (pc + 3) lv (.ref (G.1 21) :: rest)) : WX K (xw G) nL X pc lv (.ref (G.1 3) :: rest) := x_getR C (xr_bytes G) rfl (by decide) inX4 hlink rfl hd kk
theorem xG_ssize {K : Cx} {G : Gx} {nL : Nat} {cc : ByteArray} {own : String} {d : Nat} {X : St} {pc : Nat} {lv : List (Nat × Value)} {rest : List Value} (C : XC K (xw G) nL cc own d (tyG G)) {index : Nat} (hlink : Cond.fieldLink own index "RankBoard$Sheets" "size" "[I" ∈ tA) (hd : decode cc pc = .ok (.getfield index, 3)) (kk : WX K (xw G) nL X (pc + 3) lv (.ref (G.1 22) :: rest)) : WX K (xw G) nL X pc lv (.ref (G.1 3) :: rest) := x_getR C (xr_ssize G) rfl (by decide) inX4 hlink rfl hd kk
theorem xG_day {K : Cx} {G : Gx} {nL : Nat} {cc : ByteArray} {own : String} {d : Nat} {X : St} {pc : Nat} {lv : List (Nat × Value)} {rest : List Value} (C : XC K (xw G) nL cc own d (tyG G)) {index : Nat} (hlink : Cond.fieldLink own index "RankBoard$Tourney" "day" "[I" ∈ tA) (hd : decode cc pc = .ok (.getfield index, 3)) (kk : WX K (xw G) nL X (pc + 3) lv (.ref (G.1 23) :: rest)) : WX K (xw G) nL X pc lv (.ref (G.1 4) :: rest) := x_getR C (xr_day G) rfl (by decide) inX6 hlink rfl hd kk
theorem xG_upper {K : Cx} {G : Gx} {nL : Nat} {cc : ByteArray} {own : String} {d : Nat} {X : St} {pc : Nat} {lv : List (Nat × Value)} {rest : List Value} (C : XC K (xw G) nL cc own d (tyG G)) {index : Nat} (hlink : Cond.fieldLink own index "RankBoard$Tourney" "upper" "[I" ∈ tA) (hd : decode cc pc = .ok (.getfield index, 3)) (kk : WX K (xw G) nL X (pc + 3) lv (.ref (G.1 24) :: rest)) : WX K (xw G) nL X pc lv (.ref (G.1 4) :: rest) := x_getR C (xr_upper G) rfl (by decide) inX6 hlink rfl hd kk
theorem xG_lower {K : Cx} {G : Gx} {nL : Nat} {cc : ByteArray} {own : String} {d : Nat} {X : St} {pc : Nat} {lv : List (Nat × Value)} {rest : List Value} (C : XC K (xw G) nL cc own d (tyG G)) {index : Nat} (hlink : Cond.fieldLink own index "RankBoard$Tourney" "lower" "[I" ∈ tA) (hd : decode cc pc = .ok (.getfield index, 3)) (kk : WX K (xw G) nL X (pc + 3) lv (.ref (G.1 25) :: rest)) : WX K (xw G) nL X pc lv (.ref (G.1 4) :: rest) := x_getR C (xr_lower G) rfl (by decide) inX6 hlink rfl hd kk
theorem xG_winner {K : Cx} {G : Gx} {nL : Nat} {cc : ByteArray} {own : String} {d : Nat} {X : St} {pc : Nat} {lv : List (Nat × Value)} {rest : List Value} (C : XC K (xw G) nL cc own d (tyG G)) {index : Nat} (hlink : Cond.fieldLink own index "RankBoard$Tourney" "winner" "[I" ∈ tA) (hd : decode cc pc = .ok (.getfield index, 3)) (kk : WX K (xw G) nL X (pc + 3) lv (.ref (G.1 26) :: rest)) : WX K (xw G) nL X pc lv (.ref (G.1 4) :: rest) := x_getR C (xr_winner G) rfl (by decide) inX6 hlink rfl hd kk
theorem xG_metBits {K : Cx} {G : Gx} {nL : Nat} {cc : ByteArray} {own : String} {d : Nat} {X : St} {pc : Nat} {lv : List (Nat × Value)} {rest : List Value} (C : XC K (xw G) nL cc own d (tyG G)) {index : Nat} (hlink : Cond.fieldLink own index "RankBoard$Tourney" "metBits" "[I" ∈ tA) (hd : decode cc pc = .ok (.getfield index, 3)) (kk : WX K (xw G) nL X (pc + 3) lv (.ref (G.1 27) :: rest)) : WX K (xw G) nL X pc lv (.ref (G.1 4) :: rest) := x_getR C (xr_metBits G) rfl (by decide) inX6 hlink rfl hd kk
theorem xG_who {K : Cx} {G : Gx} {nL : Nat} {cc : ByteArray} {own : String} {d : Nat} {X : St} {pc : Nat} {lv : List (Nat × Value)} {rest : List Value} (C : XC K (xw G) nL cc own d (tyG G)) {index : Nat} (hlink : Cond.fieldLink own index "RankBoard$Fitting" "who" "[I" ∈ tA) (hd : decode cc pc = .ok (.getfield index, 3)) (kk : WX K (xw G) nL X (pc + 3) lv (.ref (G.1 28) :: rest)) : WX K (xw G) nL X pc lv (.ref (G.1 5) :: rest) := x_getR C (xr_who G) rfl (by decide) inX1 hlink rfl hd kk
theorem xG_mate {K : Cx} {G : Gx} {nL : Nat} {cc : ByteArray} {own : String} {d : Nat} {X : St} {pc : Nat} {lv : List (Nat × Value)} {rest : List Value} (C : XC K (xw G) nL cc own d (tyG G)) {index : Nat} (hlink : Cond.fieldLink own index "RankBoard$Fitting" "mate" "[I" ∈ tA) (hd : decode cc pc = .ok (.getfield index, 3)) (kk : WX K (xw G) nL X (pc + 3) lv (.ref (G.1 29) :: rest)) : WX K (xw G) nL X pc lv (.ref (G.1 5) :: rest) := x_getR C (xr_mate G) rfl (by decide) inX1 hlink rfl hd kk
theorem xG_charge {K : Cx} {G : Gx} {nL : Nat} {cc : ByteArray} {own : String} {d : Nat} {X : St} {pc : Nat} {lv : List (Nat × Value)} {rest : List Value} (C : XC K (xw G) nL cc own d (tyG G)) {index : Nat} (hlink : Cond.fieldLink own index "RankBoard$Fitting" "charge" "[[I" ∈ tA) (hd : decode cc pc = .ok (.getfield index, 3)) (kk : WX K (xw G) nL X (pc + 3) lv (.ref (G.1 30) :: rest)) : WX K (xw G) nL X pc lv (.ref (G.1 5) :: rest) := x_getR C (xr_charge G) rfl (by decide) inX1 hlink rfl hd kk
theorem xG_least {K : Cx} {G : Gx} {nL : Nat} {cc : ByteArray} {own : String} {d : Nat} {X : St} {pc : Nat} {lv : List (Nat × Value)} {rest : List Value} (C : XC K (xw G) nL cc own d (tyG G)) {index : Nat} (hlink : Cond.fieldLink own index "RankBoard$Fitting" "leastPlusOne" "[I" ∈ tA) (hd : decode cc pc = .ok (.getfield index, 3)) (kk : WX K (xw G) nL X (pc + 3) lv (.ref (G.1 31) :: rest)) : WX K (xw G) nL X pc lv (.ref (G.1 5) :: rest) := x_getR C (xr_least G) rfl (by decide) inX1 hlink rfl hd kk
theorem xG_low {K : Cx} {G : Gx} {nL : Nat} {cc : ByteArray} {own : String} {d : Nat} {X : St} {pc : Nat} {lv : List (Nat × Value)} {rest : List Value} (C : XC K (xw G) nL cc own d (tyG G)) {index : Nat} (hlink : Cond.fieldLink own index "RankBoard$Custom" "low" "[I" ∈ tA) (hd : decode cc pc = .ok (.getfield index, 3)) (kk : WX K (xw G) nL X (pc + 3) lv (.ref (G.1 32) :: rest)) : WX K (xw G) nL X pc lv (.ref (G.1 6) :: rest) := x_getR C (xr_low G) rfl (by decide) inX0 hlink rfl hd kk
theorem xG_high {K : Cx} {G : Gx} {nL : Nat} {cc : ByteArray} {own : String} {d : Nat} {X : St} {pc : Nat} {lv : List (Nat × Value)} {rest : List Value} (C : XC K (xw G) nL cc own d (tyG G)) {index : Nat} (hlink : Cond.fieldLink own index "RankBoard$Custom" "high" "[I" ∈ tA) (hd : decode cc pc = .ok (.getfield index, 3)) (kk : WX K (xw G) nL X (pc + 3) lv (.ref (G.1 33) :: rest)) : WX K (xw G) nL X pc lv (.ref (G.1 6) :: rest) := x_getR C (xr_high G) rfl (by decide) inX0 hlink rfl hd kk
theorem xG_up {K : Cx} {G : Gx} {nL : Nat} {cc : ByteArray} {own : String} {d : Nat} {X : St} {pc : Nat} {lv : List (Nat × Value)} {rest : List Value} (C : XC K (xw G) nL cc own d (tyG G)) {index : Nat} (hlink : Cond.fieldLink own index "RankBoard$Custom" "up" "[I" ∈ tA) (hd : decode cc pc = .ok (.getfield index, 3)) (kk : WX K (xw G) nL X (pc + 3) lv (.ref (G.1 34) :: rest)) : WX K (xw G) nL X pc lv (.ref (G.1 6) :: rest) := x_getR C (xr_up G) rfl (by decide) inX0 hlink rfl hd kk
theorem xG_former {K : Cx} {G : Gx} {nL : Nat} {cc : ByteArray} {own : String} {d : Nat} {X : St} {pc : Nat} {lv : List (Nat × Value)} {rest : List Value} (C : XC K (xw G) nL cc own d (tyG G)) {index : Nat} (hlink : Cond.fieldLink own index "RankBoard$Writing" "formerBoard" "[I" ∈ tA) (hd : decode cc pc = .ok (.getfield index, 3)) (kk : WX K (xw G) nL X (pc + 3) lv (.ref (G.1 35) :: rest)) : WX K (xw G) nL X pc lv (.ref (G.1 7) :: rest) := x_getR C (xr_former G) rfl (by decide) inX7 hlink rfl hd kk
theorem xG_before {K : Cx} {G : Gx} {nL : Nat} {cc : ByteArray} {own : String} {d : Nat} {X : St} {pc : Nat} {lv : List (Nat × Value)} {rest : List Value} (C : XC K (xw G) nL cc own d (tyG G)) {index : Nat} (hlink : Cond.fieldLink own index "RankBoard$Writing" "before" "[I" ∈ tA) (hd : decode cc pc = .ok (.getfield index, 3)) (kk : WX K (xw G) nL X (pc + 3) lv (.ref (G.1 36) :: rest)) : WX K (xw G) nL X pc lv (.ref (G.1 7) :: rest) := x_getR C (xr_before G) rfl (by decide) inX7 hlink rfl hd kk
theorem xG_after {K : Cx} {G : Gx} {nL : Nat} {cc : ByteArray} {own : String} {d : Nat} {X : St} {pc : Nat} {lv : List (Nat × Value)} {rest : List Value} (C : XC K (xw G) nL cc own d (tyG G)) {index : Nat} (hlink : Cond.fieldLink own index "RankBoard$Writing" "after" "[I" ∈ tA) (hd : decode cc pc = .ok (.getfield index, 3)) (kk : WX K (xw G) nL X (pc + 3) lv (.ref (G.1 37) :: rest)) : WX K (xw G) nL X pc lv (.ref (G.1 7) :: rest) := x_getR C (xr_after G) rfl (by decide) inX7 hlink rfl hd kk
theorem xG_byLine {K : Cx} {G : Gx} {nL : Nat} {cc : ByteArray} {own : String} {d : Nat} {X : St} {pc : Nat} {lv : List (Nat × Value)} {rest : List Value} (C : XC K (xw G) nL cc own d (tyG G)) {index : Nat} (hlink : Cond.fieldLink own index "RankBoard$Writing" "byLine" "[I" ∈ tA) (hd : decode cc pc = .ok (.getfield index, 3)) (kk : WX K (xw G) nL X (pc + 3) lv (.ref (G.1 38) :: rest)) : WX K (xw G) nL X pc lv (.ref (G.1 7) :: rest) := x_getR C (xr_byLine G) rfl (by decide) inX7 hlink rfl hd kk
theorem xG_aside {K : Cx} {G : Gx} {nL : Nat} {cc : ByteArray} {own : String} {d : Nat} {X : St} {pc : Nat} {lv : List (Nat × Value)} {rest : List Value} (C : XC K (xw G) nL cc own d (tyG G)) {index : Nat} (hlink : Cond.fieldLink own index "RankBoard$Writing" "aside" "[I" ∈ tA) (hd : decode cc pc = .ok (.getfield index, 3)) (kk : WX K (xw G) nL X (pc + 3) lv (.ref (G.1 39) :: rest)) : WX K (xw G) nL X pc lv (.ref (G.1 7) :: rest) := x_getR C (xr_aside G) rfl (by decide) inX7 hlink rfl hd kk
theorem xG_order {K : Cx} {G : Gx} {nL : Nat} {cc : ByteArray} {own : String} {d : Nat} {X : St} {pc : Nat} {lv : List (Nat × Value)} {rest : List Value} (C : XC K (xw G) nL cc own d (tyG G)) {index : Nat} (hlink : Cond.fieldLink own index "RankBoard$Writing" "order" "[I" ∈ tA) (hd : decode cc pc = .ok (.getfield index, 3)) (kk : WX K (xw G) nL X (pc + 3) lv (.ref (G.1 40) :: rest)) : WX K (xw G) nL X pc lv (.ref (G.1 7) :: rest) := x_getR C (xr_order G) rfl (by decide) inX7 hlink rfl hd kk
theorem xG_aims {K : Cx} {G : Gx} {nL : Nat} {cc : ByteArray} {own : String} {d : Nat} {X : St} {pc : Nat} {lv : List (Nat × Value)} {rest : List Value} (C : XC K (xw G) nL cc own d (tyG G)) {index : Nat} (hlink : Cond.fieldLink own index "RankBoard$Writing" "aims" "[I" ∈ tA) (hd : decode cc pc = .ok (.getfield index, 3)) (kk : WX K (xw G) nL X (pc + 3) lv (.ref (G.1 41) :: rest)) : WX K (xw G) nL X pc lv (.ref (G.1 7) :: rest) := x_getR C (xr_aims G) rfl (by decide) inX7 hlink rfl hd kk
theorem xG_row {K : Cx} {G : Gx} {nL : Nat} {cc : ByteArray} {own : String} {d : Nat} {X : St} {pc : Nat} {lv : List (Nat × Value)} {rest : List Value} (C : XC K (xw G) nL cc own d (tyG G)) {index : Nat} (hlink : Cond.fieldLink own index "RankBoard$TitleRow" "row" "[I" ∈ tA) (hd : decode cc pc = .ok (.getfield index, 3)) (kk : WX K (xw G) nL X (pc + 3) lv (.ref (G.1 42) :: rest)) : WX K (xw G) nL X pc lv (.ref (G.1 8) :: rest) := x_getR C (xr_row G) rfl (by decide) inX5 hlink rfl hd kk
theorem xL_times {K : Cx} {G : Gx} {nL : Nat} {cc : ByteArray} {own : String} {d : Nat} {X : St} {pc : Nat} {lv : List (Nat × Value)} {rest : List Value} (C : XC K (xw G) nL cc own d (tyG G)) {i : Int32} (hd : decode cc pc = .ok (.iaload, 1)) (hin : vp_in i 6) (kk : WX K (xw G) nL X (pc + 1) lv (.int (X 9 (ix i)) :: rest)) : WX K (xw G) nL X pc lv (.int i :: .ref (G.1 9) :: rest) := x_iald C (xa_times G) 0 rfl hd hin kk
theorem xS_times {K : Cx} {G : Gx} {nL : Nat} {cc : ByteArray} {own : String} {d : Nat} {X : St} {pc : Nat} {lv : List (Nat × Value)} {rest : List Value} (C : XC K (xw G) nL cc own d (tyG G)) {i v : Int32} (hd : decode cc pc = .ok (.iastore, 1)) (hin : vp_in i 6) (kk : WX K (xw G) nL (ux X 9 (ix i) v) (pc + 1) lv rest) : WX K (xw G) nL X pc lv (.int v :: .int i :: .ref (G.1 9) :: rest) := x_iast C (xa_times G) 0 rfl hd hin kk
theorem xL_kind {K : Cx} {G : Gx} {nL : Nat} {cc : ByteArray} {own : String} {d : Nat} {X : St} {pc : Nat} {lv : List (Nat × Value)} {rest : List Value} (C : XC K (xw G) nL cc own d (tyG G)) {i : Int32} (hd : decode cc pc = .ok (.iaload, 1)) (hin : vp_in i 16) (kk : WX K (xw G) nL X (pc + 1) lv (.int (X 10 (ix i)) :: rest)) : WX K (xw G) nL X pc lv (.int i :: .ref (G.1 10) :: rest) := x_iald C (xa_kind G) 0 rfl hd hin kk
theorem xS_kind {K : Cx} {G : Gx} {nL : Nat} {cc : ByteArray} {own : String} {d : Nat} {X : St} {pc : Nat} {lv : List (Nat × Value)} {rest : List Value} (C : XC K (xw G) nL cc own d (tyG G)) {i v : Int32} (hd : decode cc pc = .ok (.iastore, 1)) (hin : vp_in i 16) (kk : WX K (xw G) nL (ux X 10 (ix i) v) (pc + 1) lv rest) : WX K (xw G) nL X pc lv (.int v :: .int i :: .ref (G.1 10) :: rest) := x_iast C (xa_kind G) 0 rfl hd hin kk
theorem xL_stable {K : Cx} {G : Gx} {nL : Nat} {cc : ByteArray} {own : String} {d : Nat} {X : St} {pc : Nat} {lv : List (Nat × Value)} {rest : List Value} (C : XC K (xw G) nL cc own d (tyG G)) {i : Int32} (hd : decode cc pc = .ok (.iaload, 1)) (hin : vp_in i 16) (kk : WX K (xw G) nL X (pc + 1) lv (.int (X 11 (ix i)) :: rest)) : WX K (xw G) nL X pc lv (.int i :: .ref (G.1 11) :: rest) := x_iald C (xa_stable G) 0 rfl hd hin kk
theorem xS_stable {K : Cx} {G : Gx} {nL : Nat} {cc : ByteArray} {own : String} {d : Nat} {X : St} {pc : Nat} {lv : List (Nat × Value)} {rest : List Value} (C : XC K (xw G) nL cc own d (tyG G)) {i v : Int32} (hd : decode cc pc = .ok (.iastore, 1)) (hin : vp_in i 16) (kk : WX K (xw G) nL (ux X 11 (ix i) v) (pc + 1) lv rest) : WX K (xw G) nL X pc lv (.int v :: .int i :: .ref (G.1 11) :: rest) := x_iast C (xa_stable G) 0 rfl hd hin kk
theorem xL_kin {K : Cx} {G : Gx} {nL : Nat} {cc : ByteArray} {own : String} {d : Nat} {X : St} {pc : Nat} {lv : List (Nat × Value)} {rest : List Value} (C : XC K (xw G) nL cc own d (tyG G)) {i : Int32} (hd : decode cc pc = .ok (.iaload, 1)) (hin : vp_in i 16) (kk : WX K (xw G) nL X (pc + 1) lv (.int (X 12 (ix i)) :: rest)) : WX K (xw G) nL X pc lv (.int i :: .ref (G.1 12) :: rest) := x_iald C (xa_kin G) 0 rfl hd hin kk
theorem xS_kin {K : Cx} {G : Gx} {nL : Nat} {cc : ByteArray} {own : String} {d : Nat} {X : St} {pc : Nat} {lv : List (Nat × Value)} {rest : List Value} (C : XC K (xw G) nL cc own d (tyG G)) {i v : Int32} (hd : decode cc pc = .ok (.iastore, 1)) (hin : vp_in i 16) (kk : WX K (xw G) nL (ux X 12 (ix i) v) (pc + 1) lv rest) : WX K (xw G) nL X pc lv (.int v :: .int i :: .ref (G.1 12) :: rest) := x_iast C (xa_kin G) 0 rfl hd hin kk
theorem xL_rungOf {K : Cx} {G : Gx} {nL : Nat} {cc : ByteArray} {own : String} {d : Nat} {X : St} {pc : Nat} {lv : List (Nat × Value)} {rest : List Value} (C : XC K (xw G) nL cc own d (tyG G)) {i : Int32} (hd : decode cc pc = .ok (.iaload, 1)) (hin : vp_in i 16) (kk : WX K (xw G) nL X (pc + 1) lv (.int (X 13 (ix i)) :: rest)) : WX K (xw G) nL X pc lv (.int i :: .ref (G.1 13) :: rest) := x_iald C (xa_rungOf G) 0 rfl hd hin kk
theorem xS_rungOf {K : Cx} {G : Gx} {nL : Nat} {cc : ByteArray} {own : String} {d : Nat} {X : St} {pc : Nat} {lv : List (Nat × Value)} {rest : List Value} (C : XC K (xw G) nL cc own d (tyG G)) {i v : Int32} (hd : decode cc pc = .ok (.iastore, 1)) (hin : vp_in i 16) (kk : WX K (xw G) nL (ux X 13 (ix i) v) (pc + 1) lv rest) : WX K (xw G) nL X pc lv (.int v :: .int i :: .ref (G.1 13) :: rest) := x_iast C (xa_rungOf G) 0 rfl hd hin kk
theorem xL_wins {K : Cx} {G : Gx} {nL : Nat} {cc : ByteArray} {own : String} {d : Nat} {X : St} {pc : Nat} {lv : List (Nat × Value)} {rest : List Value} (C : XC K (xw G) nL cc own d (tyG G)) {i : Int32} (hd : decode cc pc = .ok (.iaload, 1)) (hin : vp_in i 16) (kk : WX K (xw G) nL X (pc + 1) lv (.int (X 14 (ix i)) :: rest)) : WX K (xw G) nL X pc lv (.int i :: .ref (G.1 14) :: rest) := x_iald C (xa_wins G) 0 rfl hd hin kk
theorem xS_wins {K : Cx} {G : Gx} {nL : Nat} {cc : ByteArray} {own : String} {d : Nat} {X : St} {pc : Nat} {lv : List (Nat × Value)} {rest : List Value} (C : XC K (xw G) nL cc own d (tyG G)) {i v : Int32} (hd : decode cc pc = .ok (.iastore, 1)) (hin : vp_in i 16) (kk : WX K (xw G) nL (ux X 14 (ix i) v) (pc + 1) lv rest) : WX K (xw G) nL X pc lv (.int v :: .int i :: .ref (G.1 14) :: rest) := x_iast C (xa_wins G) 0 rfl hd hin kk
theorem xL_losses {K : Cx} {G : Gx} {nL : Nat} {cc : ByteArray} {own : String} {d : Nat} {X : St} {pc : Nat} {lv : List (Nat × Value)} {rest : List Value} (C : XC K (xw G) nL cc own d (tyG G)) {i : Int32} (hd : decode cc pc = .ok (.iaload, 1)) (hin : vp_in i 16) (kk : WX K (xw G) nL X (pc + 1) lv (.int (X 15 (ix i)) :: rest)) : WX K (xw G) nL X pc lv (.int i :: .ref (G.1 15) :: rest) := x_iald C (xa_losses G) 0 rfl hd hin kk
theorem xS_losses {K : Cx} {G : Gx} {nL : Nat} {cc : ByteArray} {own : String} {d : Nat} {X : St} {pc : Nat} {lv : List (Nat × Value)} {rest : List Value} (C : XC K (xw G) nL cc own d (tyG G)) {i v : Int32} (hd : decode cc pc = .ok (.iastore, 1)) (hin : vp_in i 16) (kk : WX K (xw G) nL (ux X 15 (ix i) v) (pc + 1) lv rest) : WX K (xw G) nL X pc lv (.int v :: .int i :: .ref (G.1 15) :: rest) := x_iast C (xa_losses G) 0 rfl hd hin kk
theorem xL_titles {K : Cx} {G : Gx} {nL : Nat} {cc : ByteArray} {own : String} {d : Nat} {X : St} {pc : Nat} {lv : List (Nat × Value)} {rest : List Value} (C : XC K (xw G) nL cc own d (tyG G)) {i : Int32} (hd : decode cc pc = .ok (.iaload, 1)) (hin : vp_in i 16) (kk : WX K (xw G) nL X (pc + 1) lv (.int (X 16 (ix i)) :: rest)) : WX K (xw G) nL X pc lv (.int i :: .ref (G.1 16) :: rest) := x_iald C (xa_titles G) 0 rfl hd hin kk
theorem xS_titles {K : Cx} {G : Gx} {nL : Nat} {cc : ByteArray} {own : String} {d : Nat} {X : St} {pc : Nat} {lv : List (Nat × Value)} {rest : List Value} (C : XC K (xw G) nL cc own d (tyG G)) {i v : Int32} (hd : decode cc pc = .ok (.iastore, 1)) (hin : vp_in i 16) (kk : WX K (xw G) nL (ux X 16 (ix i) v) (pc + 1) lv rest) : WX K (xw G) nL X pc lv (.int v :: .int i :: .ref (G.1 16) :: rest) := x_iast C (xa_titles G) 0 rfl hd hin kk
theorem xL_marks {K : Cx} {G : Gx} {nL : Nat} {cc : ByteArray} {own : String} {d : Nat} {X : St} {pc : Nat} {lv : List (Nat × Value)} {rest : List Value} (C : XC K (xw G) nL cc own d (tyG G)) {i : Int32} (hd : decode cc pc = .ok (.iaload, 1)) (hin : vp_in i 16) (kk : WX K (xw G) nL X (pc + 1) lv (.int (X 17 (ix i)) :: rest)) : WX K (xw G) nL X pc lv (.int i :: .ref (G.1 17) :: rest) := x_iald C (xa_marks G) 0 rfl hd hin kk
theorem xS_marks {K : Cx} {G : Gx} {nL : Nat} {cc : ByteArray} {own : String} {d : Nat} {X : St} {pc : Nat} {lv : List (Nat × Value)} {rest : List Value} (C : XC K (xw G) nL cc own d (tyG G)) {i v : Int32} (hd : decode cc pc = .ok (.iastore, 1)) (hin : vp_in i 16) (kk : WX K (xw G) nL (ux X 17 (ix i) v) (pc + 1) lv rest) : WX K (xw G) nL X pc lv (.int v :: .int i :: .ref (G.1 17) :: rest) := x_iast C (xa_marks G) 0 rfl hd hin kk
theorem xL_gone {K : Cx} {G : Gx} {nL : Nat} {cc : ByteArray} {own : String} {d : Nat} {X : St} {pc : Nat} {lv : List (Nat × Value)} {rest : List Value} (C : XC K (xw G) nL cc own d (tyG G)) {i : Int32} (hd : decode cc pc = .ok (.baload, 1)) (hin : vp_in i 16) (kk : WX K (xw G) nL X (pc + 1) lv (.int (X 18 (ix i)) :: rest)) : WX K (xw G) nL X pc lv (.int i :: .ref (G.1 18) :: rest) := x_zald C (xa_gone G) 1 rfl hd hin kk
theorem xS_gone {K : Cx} {G : Gx} {nL : Nat} {cc : ByteArray} {own : String} {d : Nat} {X : St} {pc : Nat} {lv : List (Nat × Value)} {rest : List Value} (C : XC K (xw G) nL cc own d (tyG G)) {i v : Int32} (hd : decode cc pc = .ok (.bastore, 1)) (hin : vp_in i 16) (kk : WX K (xw G) nL (ux X 18 (ix i) (vp_nar .boolean v)) (pc + 1) lv rest) : WX K (xw G) nL X pc lv (.int v :: .int i :: .ref (G.1 18) :: rest) := x_zast C (xa_gone G) 1 rfl hd hin kk
theorem xL_away {K : Cx} {G : Gx} {nL : Nat} {cc : ByteArray} {own : String} {d : Nat} {X : St} {pc : Nat} {lv : List (Nat × Value)} {rest : List Value} (C : XC K (xw G) nL cc own d (tyG G)) {i : Int32} (hd : decode cc pc = .ok (.baload, 1)) (hin : vp_in i 16) (kk : WX K (xw G) nL X (pc + 1) lv (.int (X 19 (ix i)) :: rest)) : WX K (xw G) nL X pc lv (.int i :: .ref (G.1 19) :: rest) := x_zald C (xa_away G) 1 rfl hd hin kk
theorem xS_away {K : Cx} {G : Gx} {nL : Nat} {cc : ByteArray} {own : String} {d : Nat} {X : St} {pc : Nat} {lv : List (Nat × Value)} {rest : List Value} (C : XC K (xw G) nL cc own d (tyG G)) {i v : Int32} (hd : decode cc pc = .ok (.bastore, 1)) (hin : vp_in i 16) (kk : WX K (xw G) nL (ux X 19 (ix i) (vp_nar .boolean v)) (pc + 1) lv rest) : WX K (xw G) nL X pc lv (.int v :: .int i :: .ref (G.1 19) :: rest) := x_zast C (xa_away G) 1 rfl hd hin kk
theorem xL_board {K : Cx} {G : Gx} {nL : Nat} {cc : ByteArray} {own : String} {d : Nat} {X : St} {pc : Nat} {lv : List (Nat × Value)} {rest : List Value} (C : XC K (xw G) nL cc own d (tyG G)) {i : Int32} (hd : decode cc pc = .ok (.iaload, 1)) (hin : vp_in i 16) (kk : WX K (xw G) nL X (pc + 1) lv (.int (X 20 (ix i)) :: rest)) : WX K (xw G) nL X pc lv (.int i :: .ref (G.1 20) :: rest) := x_iald C (xa_board G) 0 rfl hd hin kk
theorem xS_board {K : Cx} {G : Gx} {nL : Nat} {cc : ByteArray} {own : String} {d : Nat} {X : St} {pc : Nat} {lv : List (Nat × Value)} {rest : List Value} (C : XC K (xw G) nL cc own d (tyG G)) {i v : Int32} (hd : decode cc pc = .ok (.iastore, 1)) (hin : vp_in i 16) (kk : WX K (xw G) nL (ux X 20 (ix i) v) (pc + 1) lv rest) : WX K (xw G) nL X pc lv (.int v :: .int i :: .ref (G.1 20) :: rest) := x_iast C (xa_board G) 0 rfl hd hin kk
theorem xL_ssize {K : Cx} {G : Gx} {nL : Nat} {cc : ByteArray} {own : String} {d : Nat} {X : St} {pc : Nat} {lv : List (Nat × Value)} {rest : List Value} (C : XC K (xw G) nL cc own d (tyG G)) {i : Int32} (hd : decode cc pc = .ok (.iaload, 1)) (hin : vp_in i 4) (kk : WX K (xw G) nL X (pc + 1) lv (.int (X 22 (ix i)) :: rest)) : WX K (xw G) nL X pc lv (.int i :: .ref (G.1 22) :: rest) := x_iald C (xa_ssize G) 0 rfl hd hin kk
theorem xS_ssize {K : Cx} {G : Gx} {nL : Nat} {cc : ByteArray} {own : String} {d : Nat} {X : St} {pc : Nat} {lv : List (Nat × Value)} {rest : List Value} (C : XC K (xw G) nL cc own d (tyG G)) {i v : Int32} (hd : decode cc pc = .ok (.iastore, 1)) (hin : vp_in i 4) (kk : WX K (xw G) nL (ux X 22 (ix i) v) (pc + 1) lv rest) : WX K (xw G) nL X pc lv (.int v :: .int i :: .ref (G.1 22) :: rest) := x_iast C (xa_ssize G) 0 rfl hd hin kk
theorem xL_day {K : Cx} {G : Gx} {nL : Nat} {cc : ByteArray} {own : String} {d : Nat} {X : St} {pc : Nat} {lv : List (Nat × Value)} {rest : List Value} (C : XC K (xw G) nL cc own d (tyG G)) {i : Int32} (hd : decode cc pc = .ok (.iaload, 1)) (hin : vp_in i 120) (kk : WX K (xw G) nL X (pc + 1) lv (.int (X 23 (ix i)) :: rest)) : WX K (xw G) nL X pc lv (.int i :: .ref (G.1 23) :: rest) := x_iald C (xa_day G) 0 rfl hd hin kk
theorem xS_day {K : Cx} {G : Gx} {nL : Nat} {cc : ByteArray} {own : String} {d : Nat} {X : St} {pc : Nat} {lv : List (Nat × Value)} {rest : List Value} (C : XC K (xw G) nL cc own d (tyG G)) {i v : Int32} (hd : decode cc pc = .ok (.iastore, 1)) (hin : vp_in i 120) (kk : WX K (xw G) nL (ux X 23 (ix i) v) (pc + 1) lv rest) : WX K (xw G) nL X pc lv (.int v :: .int i :: .ref (G.1 23) :: rest) := x_iast C (xa_day G) 0 rfl hd hin kk
theorem xL_upper {K : Cx} {G : Gx} {nL : Nat} {cc : ByteArray} {own : String} {d : Nat} {X : St} {pc : Nat} {lv : List (Nat × Value)} {rest : List Value} (C : XC K (xw G) nL cc own d (tyG G)) {i : Int32} (hd : decode cc pc = .ok (.iaload, 1)) (hin : vp_in i 120) (kk : WX K (xw G) nL X (pc + 1) lv (.int (X 24 (ix i)) :: rest)) : WX K (xw G) nL X pc lv (.int i :: .ref (G.1 24) :: rest) := x_iald C (xa_upper G) 0 rfl hd hin kk
theorem xS_upper {K : Cx} {G : Gx} {nL : Nat} {cc : ByteArray} {own : String} {d : Nat} {X : St} {pc : Nat} {lv : List (Nat × Value)} {rest : List Value} (C : XC K (xw G) nL cc own d (tyG G)) {i v : Int32} (hd : decode cc pc = .ok (.iastore, 1)) (hin : vp_in i 120) (kk : WX K (xw G) nL (ux X 24 (ix i) v) (pc + 1) lv rest) : WX K (xw G) nL X pc lv (.int v :: .int i :: .ref (G.1 24) :: rest) := x_iast C (xa_upper G) 0 rfl hd hin kk
theorem xL_lower {K : Cx} {G : Gx} {nL : Nat} {cc : ByteArray} {own : String} {d : Nat} {X : St} {pc : Nat} {lv : List (Nat × Value)} {rest : List Value} (C : XC K (xw G) nL cc own d (tyG G)) {i : Int32} (hd : decode cc pc = .ok (.iaload, 1)) (hin : vp_in i 120) (kk : WX K (xw G) nL X (pc + 1) lv (.int (X 25 (ix i)) :: rest)) : WX K (xw G) nL X pc lv (.int i :: .ref (G.1 25) :: rest) := x_iald C (xa_lower G) 0 rfl hd hin kk
theorem xS_lower {K : Cx} {G : Gx} {nL : Nat} {cc : ByteArray} {own : String} {d : Nat} {X : St} {pc : Nat} {lv : List (Nat × Value)} {rest : List Value} (C : XC K (xw G) nL cc own d (tyG G)) {i v : Int32} (hd : decode cc pc = .ok (.iastore, 1)) (hin : vp_in i 120) (kk : WX K (xw G) nL (ux X 25 (ix i) v) (pc + 1) lv rest) : WX K (xw G) nL X pc lv (.int v :: .int i :: .ref (G.1 25) :: rest) := x_iast C (xa_lower G) 0 rfl hd hin kk
theorem xL_winner {K : Cx} {G : Gx} {nL : Nat} {cc : ByteArray} {own : String} {d : Nat} {X : St} {pc : Nat} {lv : List (Nat × Value)} {rest : List Value} (C : XC K (xw G) nL cc own d (tyG G)) {i : Int32} (hd : decode cc pc = .ok (.iaload, 1)) (hin : vp_in i 120) (kk : WX K (xw G) nL X (pc + 1) lv (.int (X 26 (ix i)) :: rest)) : WX K (xw G) nL X pc lv (.int i :: .ref (G.1 26) :: rest) := x_iald C (xa_winner G) 0 rfl hd hin kk
theorem xS_winner {K : Cx} {G : Gx} {nL : Nat} {cc : ByteArray} {own : String} {d : Nat} {X : St} {pc : Nat} {lv : List (Nat × Value)} {rest : List Value} (C : XC K (xw G) nL cc own d (tyG G)) {i v : Int32} (hd : decode cc pc = .ok (.iastore, 1)) (hin : vp_in i 120) (kk : WX K (xw G) nL (ux X 26 (ix i) v) (pc + 1) lv rest) : WX K (xw G) nL X pc lv (.int v :: .int i :: .ref (G.1 26) :: rest) := x_iast C (xa_winner G) 0 rfl hd hin kk
theorem xL_metBits {K : Cx} {G : Gx} {nL : Nat} {cc : ByteArray} {own : String} {d : Nat} {X : St} {pc : Nat} {lv : List (Nat × Value)} {rest : List Value} (C : XC K (xw G) nL cc own d (tyG G)) {i : Int32} (hd : decode cc pc = .ok (.iaload, 1)) (hin : vp_in i 16) (kk : WX K (xw G) nL X (pc + 1) lv (.int (X 27 (ix i)) :: rest)) : WX K (xw G) nL X pc lv (.int i :: .ref (G.1 27) :: rest) := x_iald C (xa_metBits G) 0 rfl hd hin kk
theorem xS_metBits {K : Cx} {G : Gx} {nL : Nat} {cc : ByteArray} {own : String} {d : Nat} {X : St} {pc : Nat} {lv : List (Nat × Value)} {rest : List Value} (C : XC K (xw G) nL cc own d (tyG G)) {i v : Int32} (hd : decode cc pc = .ok (.iastore, 1)) (hin : vp_in i 16) (kk : WX K (xw G) nL (ux X 27 (ix i) v) (pc + 1) lv rest) : WX K (xw G) nL X pc lv (.int v :: .int i :: .ref (G.1 27) :: rest) := x_iast C (xa_metBits G) 0 rfl hd hin kk
theorem xL_who {K : Cx} {G : Gx} {nL : Nat} {cc : ByteArray} {own : String} {d : Nat} {X : St} {pc : Nat} {lv : List (Nat × Value)} {rest : List Value} (C : XC K (xw G) nL cc own d (tyG G)) {i : Int32} (hd : decode cc pc = .ok (.iaload, 1)) (hin : vp_in i 16) (kk : WX K (xw G) nL X (pc + 1) lv (.int (X 28 (ix i)) :: rest)) : WX K (xw G) nL X pc lv (.int i :: .ref (G.1 28) :: rest) := x_iald C (xa_who G) 0 rfl hd hin kk
theorem xS_who {K : Cx} {G : Gx} {nL : Nat} {cc : ByteArray} {own : String} {d : Nat} {X : St} {pc : Nat} {lv : List (Nat × Value)} {rest : List Value} (C : XC K (xw G) nL cc own d (tyG G)) {i v : Int32} (hd : decode cc pc = .ok (.iastore, 1)) (hin : vp_in i 16) (kk : WX K (xw G) nL (ux X 28 (ix i) v) (pc + 1) lv rest) : WX K (xw G) nL X pc lv (.int v :: .int i :: .ref (G.1 28) :: rest) := x_iast C (xa_who G) 0 rfl hd hin kk
theorem xL_mate {K : Cx} {G : Gx} {nL : Nat} {cc : ByteArray} {own : String} {d : Nat} {X : St} {pc : Nat} {lv : List (Nat × Value)} {rest : List Value} (C : XC K (xw G) nL cc own d (tyG G)) {i : Int32} (hd : decode cc pc = .ok (.iaload, 1)) (hin : vp_in i 16) (kk : WX K (xw G) nL X (pc + 1) lv (.int (X 29 (ix i)) :: rest)) : WX K (xw G) nL X pc lv (.int i :: .ref (G.1 29) :: rest) := x_iald C (xa_mate G) 0 rfl hd hin kk
theorem xS_mate {K : Cx} {G : Gx} {nL : Nat} {cc : ByteArray} {own : String} {d : Nat} {X : St} {pc : Nat} {lv : List (Nat × Value)} {rest : List Value} (C : XC K (xw G) nL cc own d (tyG G)) {i v : Int32} (hd : decode cc pc = .ok (.iastore, 1)) (hin : vp_in i 16) (kk : WX K (xw G) nL (ux X 29 (ix i) v) (pc + 1) lv rest) : WX K (xw G) nL X pc lv (.int v :: .int i :: .ref (G.1 29) :: rest) := x_iast C (xa_mate G) 0 rfl hd hin kk
theorem xL_least {K : Cx} {G : Gx} {nL : Nat} {cc : ByteArray} {own : String} {d : Nat} {X : St} {pc : Nat} {lv : List (Nat × Value)} {rest : List Value} (C : XC K (xw G) nL cc own d (tyG G)) {i : Int32} (hd : decode cc pc = .ok (.iaload, 1)) (hin : vp_in i 8192) (kk : WX K (xw G) nL X (pc + 1) lv (.int (X 31 (ix i)) :: rest)) : WX K (xw G) nL X pc lv (.int i :: .ref (G.1 31) :: rest) := x_iald C (xa_least G) 0 rfl hd hin kk
theorem xS_least {K : Cx} {G : Gx} {nL : Nat} {cc : ByteArray} {own : String} {d : Nat} {X : St} {pc : Nat} {lv : List (Nat × Value)} {rest : List Value} (C : XC K (xw G) nL cc own d (tyG G)) {i v : Int32} (hd : decode cc pc = .ok (.iastore, 1)) (hin : vp_in i 8192) (kk : WX K (xw G) nL (ux X 31 (ix i) v) (pc + 1) lv rest) : WX K (xw G) nL X pc lv (.int v :: .int i :: .ref (G.1 31) :: rest) := x_iast C (xa_least G) 0 rfl hd hin kk
theorem xL_low {K : Cx} {G : Gx} {nL : Nat} {cc : ByteArray} {own : String} {d : Nat} {X : St} {pc : Nat} {lv : List (Nat × Value)} {rest : List Value} (C : XC K (xw G) nL cc own d (tyG G)) {i : Int32} (hd : decode cc pc = .ok (.iaload, 1)) (hin : vp_in i 12) (kk : WX K (xw G) nL X (pc + 1) lv (.int (X 32 (ix i)) :: rest)) : WX K (xw G) nL X pc lv (.int i :: .ref (G.1 32) :: rest) := x_iald C (xa_low G) 0 rfl hd hin kk
theorem xS_low {K : Cx} {G : Gx} {nL : Nat} {cc : ByteArray} {own : String} {d : Nat} {X : St} {pc : Nat} {lv : List (Nat × Value)} {rest : List Value} (C : XC K (xw G) nL cc own d (tyG G)) {i v : Int32} (hd : decode cc pc = .ok (.iastore, 1)) (hin : vp_in i 12) (kk : WX K (xw G) nL (ux X 32 (ix i) v) (pc + 1) lv rest) : WX K (xw G) nL X pc lv (.int v :: .int i :: .ref (G.1 32) :: rest) := x_iast C (xa_low G) 0 rfl hd hin kk
theorem xL_high {K : Cx} {G : Gx} {nL : Nat} {cc : ByteArray} {own : String} {d : Nat} {X : St} {pc : Nat} {lv : List (Nat × Value)} {rest : List Value} (C : XC K (xw G) nL cc own d (tyG G)) {i : Int32} (hd : decode cc pc = .ok (.iaload, 1)) (hin : vp_in i 12) (kk : WX K (xw G) nL X (pc + 1) lv (.int (X 33 (ix i)) :: rest)) : WX K (xw G) nL X pc lv (.int i :: .ref (G.1 33) :: rest) := x_iald C (xa_high G) 0 rfl hd hin kk
theorem xS_high {K : Cx} {G : Gx} {nL : Nat} {cc : ByteArray} {own : String} {d : Nat} {X : St} {pc : Nat} {lv : List (Nat × Value)} {rest : List Value} (C : XC K (xw G) nL cc own d (tyG G)) {i v : Int32} (hd : decode cc pc = .ok (.iastore, 1)) (hin : vp_in i 12) (kk : WX K (xw G) nL (ux X 33 (ix i) v) (pc + 1) lv rest) : WX K (xw G) nL X pc lv (.int v :: .int i :: .ref (G.1 33) :: rest) := x_iast C (xa_high G) 0 rfl hd hin kk
theorem xL_up {K : Cx} {G : Gx} {nL : Nat} {cc : ByteArray} {own : String} {d : Nat} {X : St} {pc : Nat} {lv : List (Nat × Value)} {rest : List Value} (C : XC K (xw G) nL cc own d (tyG G)) {i : Int32} (hd : decode cc pc = .ok (.iaload, 1)) (hin : vp_in i 12) (kk : WX K (xw G) nL X (pc + 1) lv (.int (X 34 (ix i)) :: rest)) : WX K (xw G) nL X pc lv (.int i :: .ref (G.1 34) :: rest) := x_iald C (xa_up G) 0 rfl hd hin kk
theorem xS_up {K : Cx} {G : Gx} {nL : Nat} {cc : ByteArray} {own : String} {d : Nat} {X : St} {pc : Nat} {lv : List (Nat × Value)} {rest : List Value} (C : XC K (xw G) nL cc own d (tyG G)) {i v : Int32} (hd : decode cc pc = .ok (.iastore, 1)) (hin : vp_in i 12) (kk : WX K (xw G) nL (ux X 34 (ix i) v) (pc + 1) lv rest) : WX K (xw G) nL X pc lv (.int v :: .int i :: .ref (G.1 34) :: rest) := x_iast C (xa_up G) 0 rfl hd hin kk
theorem xL_former {K : Cx} {G : Gx} {nL : Nat} {cc : ByteArray} {own : String} {d : Nat} {X : St} {pc : Nat} {lv : List (Nat × Value)} {rest : List Value} (C : XC K (xw G) nL cc own d (tyG G)) {i : Int32} (hd : decode cc pc = .ok (.iaload, 1)) (hin : vp_in i 16) (kk : WX K (xw G) nL X (pc + 1) lv (.int (X 35 (ix i)) :: rest)) : WX K (xw G) nL X pc lv (.int i :: .ref (G.1 35) :: rest) := x_iald C (xa_former G) 0 rfl hd hin kk
theorem xS_former {K : Cx} {G : Gx} {nL : Nat} {cc : ByteArray} {own : String} {d : Nat} {X : St} {pc : Nat} {lv : List (Nat × Value)} {rest : List Value} (C : XC K (xw G) nL cc own d (tyG G)) {i v : Int32} (hd : decode cc pc = .ok (.iastore, 1)) (hin : vp_in i 16) (kk : WX K (xw G) nL (ux X 35 (ix i) v) (pc + 1) lv rest) : WX K (xw G) nL X pc lv (.int v :: .int i :: .ref (G.1 35) :: rest) := x_iast C (xa_former G) 0 rfl hd hin kk
theorem xL_before {K : Cx} {G : Gx} {nL : Nat} {cc : ByteArray} {own : String} {d : Nat} {X : St} {pc : Nat} {lv : List (Nat × Value)} {rest : List Value} (C : XC K (xw G) nL cc own d (tyG G)) {i : Int32} (hd : decode cc pc = .ok (.iaload, 1)) (hin : vp_in i 16) (kk : WX K (xw G) nL X (pc + 1) lv (.int (X 36 (ix i)) :: rest)) : WX K (xw G) nL X pc lv (.int i :: .ref (G.1 36) :: rest) := x_iald C (xa_before G) 0 rfl hd hin kk
theorem xS_before {K : Cx} {G : Gx} {nL : Nat} {cc : ByteArray} {own : String} {d : Nat} {X : St} {pc : Nat} {lv : List (Nat × Value)} {rest : List Value} (C : XC K (xw G) nL cc own d (tyG G)) {i v : Int32} (hd : decode cc pc = .ok (.iastore, 1)) (hin : vp_in i 16) (kk : WX K (xw G) nL (ux X 36 (ix i) v) (pc + 1) lv rest) : WX K (xw G) nL X pc lv (.int v :: .int i :: .ref (G.1 36) :: rest) := x_iast C (xa_before G) 0 rfl hd hin kk
theorem xL_after {K : Cx} {G : Gx} {nL : Nat} {cc : ByteArray} {own : String} {d : Nat} {X : St} {pc : Nat} {lv : List (Nat × Value)} {rest : List Value} (C : XC K (xw G) nL cc own d (tyG G)) {i : Int32} (hd : decode cc pc = .ok (.iaload, 1)) (hin : vp_in i 16) (kk : WX K (xw G) nL X (pc + 1) lv (.int (X 37 (ix i)) :: rest)) : WX K (xw G) nL X pc lv (.int i :: .ref (G.1 37) :: rest) := x_iald C (xa_after G) 0 rfl hd hin kk
theorem xS_after {K : Cx} {G : Gx} {nL : Nat} {cc : ByteArray} {own : String} {d : Nat} {X : St} {pc : Nat} {lv : List (Nat × Value)} {rest : List Value} (C : XC K (xw G) nL cc own d (tyG G)) {i v : Int32} (hd : decode cc pc = .ok (.iastore, 1)) (hin : vp_in i 16) (kk : WX K (xw G) nL (ux X 37 (ix i) v) (pc + 1) lv rest) : WX K (xw G) nL X pc lv (.int v :: .int i :: .ref (G.1 37) :: rest) := x_iast C (xa_after G) 0 rfl hd hin kk
theorem xL_byLine {K : Cx} {G : Gx} {nL : Nat} {cc : ByteArray} {own : String} {d : Nat} {X : St} {pc : Nat} {lv : List (Nat × Value)} {rest : List Value} (C : XC K (xw G) nL cc own d (tyG G)) {i : Int32} (hd : decode cc pc = .ok (.iaload, 1)) (hin : vp_in i 16) (kk : WX K (xw G) nL X (pc + 1) lv (.int (X 38 (ix i)) :: rest)) : WX K (xw G) nL X pc lv (.int i :: .ref (G.1 38) :: rest) := x_iald C (xa_byLine G) 0 rfl hd hin kk
theorem xS_byLine {K : Cx} {G : Gx} {nL : Nat} {cc : ByteArray} {own : String} {d : Nat} {X : St} {pc : Nat} {lv : List (Nat × Value)} {rest : List Value} (C : XC K (xw G) nL cc own d (tyG G)) {i v : Int32} (hd : decode cc pc = .ok (.iastore, 1)) (hin : vp_in i 16) (kk : WX K (xw G) nL (ux X 38 (ix i) v) (pc + 1) lv rest) : WX K (xw G) nL X pc lv (.int v :: .int i :: .ref (G.1 38) :: rest) := x_iast C (xa_byLine G) 0 rfl hd hin kk
theorem xL_aside {K : Cx} {G : Gx} {nL : Nat} {cc : ByteArray} {own : String} {d : Nat} {X : St} {pc : Nat} {lv : List (Nat × Value)} {rest : List Value} (C : XC K (xw G) nL cc own d (tyG G)) {i : Int32} (hd : decode cc pc = .ok (.iaload, 1)) (hin : vp_in i 16) (kk : WX K (xw G) nL X (pc + 1) lv (.int (X 39 (ix i)) :: rest)) : WX K (xw G) nL X pc lv (.int i :: .ref (G.1 39) :: rest) := x_iald C (xa_aside G) 0 rfl hd hin kk
theorem xS_aside {K : Cx} {G : Gx} {nL : Nat} {cc : ByteArray} {own : String} {d : Nat} {X : St} {pc : Nat} {lv : List (Nat × Value)} {rest : List Value} (C : XC K (xw G) nL cc own d (tyG G)) {i v : Int32} (hd : decode cc pc = .ok (.iastore, 1)) (hin : vp_in i 16) (kk : WX K (xw G) nL (ux X 39 (ix i) v) (pc + 1) lv rest) : WX K (xw G) nL X pc lv (.int v :: .int i :: .ref (G.1 39) :: rest) := x_iast C (xa_aside G) 0 rfl hd hin kk
theorem xL_order {K : Cx} {G : Gx} {nL : Nat} {cc : ByteArray} {own : String} {d : Nat} {X : St} {pc : Nat} {lv : List (Nat × Value)} {rest : List Value} (C : XC K (xw G) nL cc own d (tyG G)) {i : Int32} (hd : decode cc pc = .ok (.iaload, 1)) (hin : vp_in i 16) (kk : WX K (xw G) nL X (pc + 1) lv (.int (X 40 (ix i)) :: rest)) : WX K (xw G) nL X pc lv (.int i :: .ref (G.1 40) :: rest) := x_iald C (xa_order G) 0 rfl hd hin kk
theorem xS_order {K : Cx} {G : Gx} {nL : Nat} {cc : ByteArray} {own : String} {d : Nat} {X : St} {pc : Nat} {lv : List (Nat × Value)} {rest : List Value} (C : XC K (xw G) nL cc own d (tyG G)) {i v : Int32} (hd : decode cc pc = .ok (.iastore, 1)) (hin : vp_in i 16) (kk : WX K (xw G) nL (ux X 40 (ix i) v) (pc + 1) lv rest) : WX K (xw G) nL X pc lv (.int v :: .int i :: .ref (G.1 40) :: rest) := x_iast C (xa_order G) 0 rfl hd hin kk
theorem xL_aims {K : Cx} {G : Gx} {nL : Nat} {cc : ByteArray} {own : String} {d : Nat} {X : St} {pc : Nat} {lv : List (Nat × Value)} {rest : List Value} (C : XC K (xw G) nL cc own d (tyG G)) {i : Int32} (hd : decode cc pc = .ok (.iaload, 1)) (hin : vp_in i 16) (kk : WX K (xw G) nL X (pc + 1) lv (.int (X 41 (ix i)) :: rest)) : WX K (xw G) nL X pc lv (.int i :: .ref (G.1 41) :: rest) := x_iald C (xa_aims G) 0 rfl hd hin kk
theorem xS_aims {K : Cx} {G : Gx} {nL : Nat} {cc : ByteArray} {own : String} {d : Nat} {X : St} {pc : Nat} {lv : List (Nat × Value)} {rest : List Value} (C : XC K (xw G) nL cc own d (tyG G)) {i v : Int32} (hd : decode cc pc = .ok (.iastore, 1)) (hin : vp_in i 16) (kk : WX K (xw G) nL (ux X 41 (ix i) v) (pc + 1) lv rest) : WX K (xw G) nL X pc lv (.int v :: .int i :: .ref (G.1 41) :: rest) := x_iast C (xa_aims G) 0 rfl hd hin kk
theorem xL_row {K : Cx} {G : Gx} {nL : Nat} {cc : ByteArray} {own : String} {d : Nat} {X : St} {pc : Nat} {lv : List (Nat × Value)} {rest : List Value} (C : XC K (xw G) nL cc own d (tyG G)) {i : Int32} (hd : decode cc pc = .ok (.iaload, 1)) (hin : vp_in i 16) (kk : WX K (xw G) nL X (pc + 1) lv (.int (X 42 (ix i)) :: rest)) : WX K (xw G) nL X pc lv (.int i :: .ref (G.1 42) :: rest) := x_iald C (xa_row G) 0 rfl hd hin kk
theorem xS_row {K : Cx} {G : Gx} {nL : Nat} {cc : ByteArray} {own : String} {d : Nat} {X : St} {pc : Nat} {lv : List (Nat × Value)} {rest : List Value} (C : XC K (xw G) nL cc own d (tyG G)) {i v : Int32} (hd : decode cc pc = .ok (.iastore, 1)) (hin : vp_in i 16) (kk : WX K (xw G) nL (ux X 42 (ix i) v) (pc + 1) lv rest) : WX K (xw G) nL X pc lv (.int v :: .int i :: .ref (G.1 42) :: rest) := x_iast C (xa_row G) 0 rfl hd hin kk
theorem xL_bytes {K : Cx} {G : Gx} {nL : Nat} {cc : ByteArray} {own : String} {d : Nat} {X : St} {pc : Nat} {lv : List (Nat × Value)} {rest : List Value} (C : XC K (xw G) nL cc own d (tyG G)) {i : Int32} (hd : decode cc pc = .ok (.aaload, 1)) (hin : vp_in i 4) (kk : WX K (xw G) nL X (pc + 1) lv (.ref (G.1 (43 + ix i)) :: rest)) : WX K (xw G) nL X pc lv (.int i :: .ref (G.1 21) :: rest) := x_aald C (xg_bytes G) 4 rfl hd hin kk
theorem xLL_bytes {K : Cx} {G : Gx} {nL : Nat} {cc : ByteArray} {own : String} {d : Nat} {X : St} {pc : Nat} {lv : List (Nat × Value)} {rest : List Value} (C : XC K (xw G) nL cc own d (tyG G)) {i : Int32} {r : Nat} (hd : decode cc pc = .ok (.baload, 1)) (hr : r < 4) (hin : vp_in i 16) (kk : WX K (xw G) nL X (pc + 1) lv (.int (X (43 + r) (ix i)) :: rest)) : WX K (xw G) nL X pc lv (.int i :: .ref (G.1 (43 + r)) :: rest) := x_bald C (xi_bytes G hr) 2 rfl hd hin kk
theorem xSS_bytes {K : Cx} {G : Gx} {nL : Nat} {cc : ByteArray} {own : String} {d : Nat} {X : St} {pc : Nat} {lv : List (Nat × Value)} {rest : List Value} (C : XC K (xw G) nL cc own d (tyG G)) {i v : Int32} {r : Nat} (hd : decode cc pc = .ok (.bastore, 1)) (hr : r < 4) (hin : vp_in i 16) (kk : WX K (xw G) nL (ux X (43 + r) (ix i) (vp_nar .byte v)) (pc + 1) lv rest) : WX K (xw G) nL X pc lv (.int v :: .int i :: .ref (G.1 (43 + r)) :: rest) := x_bast C (xi_bytes G hr) 2 rfl hd hin kk
theorem xL_charge {K : Cx} {G : Gx} {nL : Nat} {cc : ByteArray} {own : String} {d : Nat} {X : St} {pc : Nat} {lv : List (Nat × Value)} {rest : List Value} (C : XC K (xw G) nL cc own d (tyG G)) {i : Int32} (hd : decode cc pc = .ok (.aaload, 1)) (hin : vp_in i 16) (kk : WX K (xw G) nL X (pc + 1) lv (.ref (G.1 (47 + ix i)) :: rest)) : WX K (xw G) nL X pc lv (.int i :: .ref (G.1 30) :: rest) := x_aald C (xg_charge G) 3 rfl hd hin kk
theorem xLL_charge {K : Cx} {G : Gx} {nL : Nat} {cc : ByteArray} {own : String} {d : Nat} {X : St} {pc : Nat} {lv : List (Nat × Value)} {rest : List Value} (C : XC K (xw G) nL cc own d (tyG G)) {i : Int32} {r : Nat} (hd : decode cc pc = .ok (.iaload, 1)) (hr : r < 16) (hin : vp_in i 16) (kk : WX K (xw G) nL X (pc + 1) lv (.int (X (47 + r) (ix i)) :: rest)) : WX K (xw G) nL X pc lv (.int i :: .ref (G.1 (47 + r)) :: rest) := x_iald C (xi_charge G hr) 0 rfl hd hin kk
theorem xSS_charge {K : Cx} {G : Gx} {nL : Nat} {cc : ByteArray} {own : String} {d : Nat} {X : St} {pc : Nat} {lv : List (Nat × Value)} {rest : List Value} (C : XC K (xw G) nL cc own d (tyG G)) {i v : Int32} {r : Nat} (hd : decode cc pc = .ok (.iastore, 1)) (hr : r < 16) (hin : vp_in i 16) (kk : WX K (xw G) nL (ux X (47 + r) (ix i) v) (pc + 1) lv rest) : WX K (xw G) nL X pc lv (.int v :: .int i :: .ref (G.1 (47 + r)) :: rest) := x_iast C (xi_charge G hr) 0 rfl hd hin kk
def mw (G : Gx) (X : St) : va_W := [(G.1 0, .inr (9, [.int (X 100 0), .ref (G.1 1), .int (X 101 0), .ref (G.1 2), .ref (G.1 3), .ref (G.1 4), .ref (G.1 5), .ref (G.1 6), .ref (G.1 7), .ref (G.1 8), .ref (G.1 9), .ref (G.1 10), .int (X 102 0), .ref (G.1 11), .int (X 103 0), .ref (G.1 12), .ref (G.1 13), .int (X 104 0), .ref (G.1 14), .int (X 105 0), .int (X 106 0), .int (X 107 0), .ref (G.1 15), .ref (G.1 16), .ref (G.1 17), .ref (G.1 18), .int (X 108 0), .int (X 109 0), .int (X 110 0), .ref (G.1 19), .int (X 111 0), .ref (G.1 20), .ref (G.1 21), .int (X 112 0), .ref (G.1 22), .ref (G.1 23), .ref (G.1 24), .int (X 113 0), .int (X 114 0), .int (X 115 0), .ref (G.1 25), .ref (G.1 26), .ref (G.1 27), .ref (G.1 28), .ref (G.1 29), .ref (G.1 30), .ref (G.1 31), .ref (G.1 32), .int (X 116 0), .int (X 117 0), .ref (G.1 33), .int (X 118 0)])), (G.1 1, .inl (G.2.1, 6, .inl (X 1))), (G.1 2, .inl (G.2.1, 16, .inl (X 2))), (G.1 3, .inl (G.2.1, 16, .inl (X 3))), (G.1 4, .inl (G.2.1, 16, .inl (X 4))), (G.1 5, .inl (G.2.2.1, 16, .inl (X 5))), (G.1 6, .inl (G.2.2.1, 16, .inl (X 6))), (G.1 7, .inl (G.2.1, 16, .inl (X 7))), (G.1 8, .inl (G.2.1, 16, .inl (X 8))), (G.1 9, .inl (G.2.1, 16, .inl (X 9))), (G.1 10, .inl (G.2.1, 16, .inl (X 10))), (G.1 11, .inl (G.2.1, 16, .inl (X 11))), (G.1 12, .inl (G.2.1, 4, .inl (X 12))), (G.1 13, .inl (G.2.2.2.1, 64, .inl (X 13))), (G.1 14, .inl (G.2.2.2.1, 16, .inl (X 14))), (G.1 15, .inl (G.2.1, 120, .inl (X 15))), (G.1 16, .inl (G.2.1, 120, .inl (X 16))), (G.1 17, .inl (G.2.1, 120, .inl (X 17))), (G.1 18, .inl (G.2.1, 120, .inl (X 18))), (G.1 19, .inl (G.2.1, 16, .inl (X 19))), (G.1 20, .inl (G.2.1, 256, .inl (X 20))), (G.1 21, .inl (G.2.1, 65536, .inl (X 21))), (G.1 22, .inl (G.2.1, 12, .inl (X 22))), (G.1 23, .inl (G.2.1, 12, .inl (X 23))), (G.1 24, .inl (G.2.1, 12, .inl (X 24))), (G.1 25, .inl (G.2.1, 16, .inl (X 25))), (G.1 26, .inl (G.2.1, 16, .inl (X 26))), (G.1 27, .inl (G.2.1, 16, .inl (X 27))), (G.1 28, .inl (G.2.1, 16, .inl (X 28))), (G.1 29, .inl (G.2.1, 16, .inl (X 29))), (G.1 30, .inl (G.2.1, 16, .inl (X 30))), (G.1 31, .inl (G.2.1, 16, .inl (X 31))), (G.1 32, .inl (G.2.1, 16, .inl (X 32))), (G.1 33, .inl (G.2.1, 16, .inl (X 33)))]
theorem mw_adr (G : Gx) : wfA (mw G) := fun _ _ => rfl
theorem me_0 (G : Gx) (X : St) : (mw G X)[0]? = some (G.1 0, .inr (9, [.int (X 100 0), .ref (G.1 1), .int (X 101 0), .ref (G.1 2), .ref (G.1 3), .ref (G.1 4), .ref (G.1 5), .ref (G.1 6), .ref (G.1 7), .ref (G.1 8), .ref (G.1 9), .ref (G.1 10), .int (X 102 0), .ref (G.1 11), .int (X 103 0), .ref (G.1 12), .ref (G.1 13), .int (X 104 0), .ref (G.1 14), .int (X 105 0), .int (X 106 0), .int (X 107 0), .ref (G.1 15), .ref (G.1 16), .ref (G.1 17), .ref (G.1 18), .int (X 108 0), .int (X 109 0), .int (X 110 0), .ref (G.1 19), .int (X 111 0), .ref (G.1 20), .ref (G.1 21), .int (X 112 0), .ref (G.1 22), .ref (G.1 23), .ref (G.1 24), .int (X 113 0), .int (X 114 0), .int (X 115 0), .ref (G.1 25), .ref (G.1 26), .ref (G.1 27), .ref (G.1 28), .ref (G.1 29), .ref (G.1 30), .ref (G.1 31), .ref (G.1 32), .int (X 116 0), .int (X 117 0), .ref (G.1 33), .int (X 118 0)])) := rfl
theorem mf_latest (G : Gx) : isFld (mw G) 0 (G.1 0) 9 0 100 := fun X => ⟨[.int (X 100 0), .ref (G.1 1), .int (X 101 0), .ref (G.1 2), .ref (G.1 3), .ref (G.1 4), .ref (G.1 5), .ref (G.1 6), .ref (G.1 7), .ref (G.1 8), .ref (G.1 9), .ref (G.1 10), .int (X 102 0), .ref (G.1 11), .int (X 103 0), .ref (G.1 12), .ref (G.1 13), .int (X 104 0), .ref (G.1 14), .int (X 105 0), .int (X 106 0), .int (X 107 0), .ref (G.1 15), .ref (G.1 16), .ref (G.1 17), .ref (G.1 18), .int (X 108 0), .int (X 109 0), .int (X 110 0), .ref (G.1 19), .int (X 111 0), .ref (G.1 20), .ref (G.1 21), .int (X 112 0), .ref (G.1 22), .ref (G.1 23), .ref (G.1 24), .int (X 113 0), .int (X 114 0), .int (X 115 0), .ref (G.1 25), .ref (G.1 26), .ref (G.1 27), .ref (G.1 28), .ref (G.1 29), .ref (G.1 30), .ref (G.1 31), .ref (G.1 32), .int (X 116 0), .int (X 117 0), .ref (G.1 33), .int (X 118 0)], rfl, rfl, fun _ => rfl⟩
theorem mf_ever (G : Gx) : isFld (mw G) 0 (G.1 0) 9 2 101 := fun X => ⟨[.int (X 100 0), .ref (G.1 1), .int (X 101 0), .ref (G.1 2), .ref (G.1 3), .ref (G.1 4), .ref (G.1 5), .ref (G.1 6), .ref (G.1 7), .ref (G.1 8), .ref (G.1 9), .ref (G.1 10), .int (X 102 0), .ref (G.1 11), .int (X 103 0), .ref (G.1 12), .ref (G.1 13), .int (X 104 0), .ref (G.1 14), .int (X 105 0), .int (X 106 0), .int (X 107 0), .ref (G.1 15), .ref (G.1 16), .ref (G.1 17), .ref (G.1 18), .int (X 108 0), .int (X 109 0), .int (X 110 0), .ref (G.1 19), .int (X 111 0), .ref (G.1 20), .ref (G.1 21), .int (X 112 0), .ref (G.1 22), .ref (G.1 23), .ref (G.1 24), .int (X 113 0), .int (X 114 0), .int (X 115 0), .ref (G.1 25), .ref (G.1 26), .ref (G.1 27), .ref (G.1 28), .ref (G.1 29), .ref (G.1 30), .ref (G.1 31), .ref (G.1 32), .int (X 116 0), .int (X 117 0), .ref (G.1 33), .int (X 118 0)], rfl, rfl, fun _ => rfl⟩
theorem mf_there (G : Gx) : isFld (mw G) 0 (G.1 0) 9 12 102 := fun X => ⟨[.int (X 100 0), .ref (G.1 1), .int (X 101 0), .ref (G.1 2), .ref (G.1 3), .ref (G.1 4), .ref (G.1 5), .ref (G.1 6), .ref (G.1 7), .ref (G.1 8), .ref (G.1 9), .ref (G.1 10), .int (X 102 0), .ref (G.1 11), .int (X 103 0), .ref (G.1 12), .ref (G.1 13), .int (X 104 0), .ref (G.1 14), .int (X 105 0), .int (X 106 0), .int (X 107 0), .ref (G.1 15), .ref (G.1 16), .ref (G.1 17), .ref (G.1 18), .int (X 108 0), .int (X 109 0), .int (X 110 0), .ref (G.1 19), .int (X 111 0), .ref (G.1 20), .ref (G.1 21), .int (X 112 0), .ref (G.1 22), .ref (G.1 23), .ref (G.1 24), .int (X 113 0), .int (X 114 0), .int (X 115 0), .ref (G.1 25), .ref (G.1 26), .ref (G.1 27), .ref (G.1 28), .ref (G.1 29), .ref (G.1 30), .ref (G.1 31), .ref (G.1 32), .int (X 116 0), .int (X 117 0), .ref (G.1 33), .int (X 118 0)], rfl, rfl, fun _ => rfl⟩
theorem mf_isMeet (G : Gx) : isFld (mw G) 0 (G.1 0) 9 14 103 := fun X => ⟨[.int (X 100 0), .ref (G.1 1), .int (X 101 0), .ref (G.1 2), .ref (G.1 3), .ref (G.1 4), .ref (G.1 5), .ref (G.1 6), .ref (G.1 7), .ref (G.1 8), .ref (G.1 9), .ref (G.1 10), .int (X 102 0), .ref (G.1 11), .int (X 103 0), .ref (G.1 12), .ref (G.1 13), .int (X 104 0), .ref (G.1 14), .int (X 105 0), .int (X 106 0), .int (X 107 0), .ref (G.1 15), .ref (G.1 16), .ref (G.1 17), .ref (G.1 18), .int (X 108 0), .int (X 109 0), .int (X 110 0), .ref (G.1 19), .int (X 111 0), .ref (G.1 20), .ref (G.1 21), .int (X 112 0), .ref (G.1 22), .ref (G.1 23), .ref (G.1 24), .int (X 113 0), .int (X 114 0), .int (X 115 0), .ref (G.1 25), .ref (G.1 26), .ref (G.1 27), .ref (G.1 28), .ref (G.1 29), .ref (G.1 30), .ref (G.1 31), .ref (G.1 32), .int (X 116 0), .int (X 117 0), .ref (G.1 33), .int (X 118 0)], rfl, rfl, fun _ => rfl⟩
theorem mf_priceSheet (G : Gx) : isFld (mw G) 0 (G.1 0) 9 17 104 := fun X => ⟨[.int (X 100 0), .ref (G.1 1), .int (X 101 0), .ref (G.1 2), .ref (G.1 3), .ref (G.1 4), .ref (G.1 5), .ref (G.1 6), .ref (G.1 7), .ref (G.1 8), .ref (G.1 9), .ref (G.1 10), .int (X 102 0), .ref (G.1 11), .int (X 103 0), .ref (G.1 12), .ref (G.1 13), .int (X 104 0), .ref (G.1 14), .int (X 105 0), .int (X 106 0), .int (X 107 0), .ref (G.1 15), .ref (G.1 16), .ref (G.1 17), .ref (G.1 18), .int (X 108 0), .int (X 109 0), .int (X 110 0), .ref (G.1 19), .int (X 111 0), .ref (G.1 20), .ref (G.1 21), .int (X 112 0), .ref (G.1 22), .ref (G.1 23), .ref (G.1 24), .int (X 113 0), .int (X 114 0), .int (X 115 0), .ref (G.1 25), .ref (G.1 26), .ref (G.1 27), .ref (G.1 28), .ref (G.1 29), .ref (G.1 30), .ref (G.1 31), .ref (G.1 32), .int (X 116 0), .int (X 117 0), .ref (G.1 33), .int (X 118 0)], rfl, rfl, fun _ => rfl⟩
theorem mf_days (G : Gx) : isFld (mw G) 0 (G.1 0) 9 19 105 := fun X => ⟨[.int (X 100 0), .ref (G.1 1), .int (X 101 0), .ref (G.1 2), .ref (G.1 3), .ref (G.1 4), .ref (G.1 5), .ref (G.1 6), .ref (G.1 7), .ref (G.1 8), .ref (G.1 9), .ref (G.1 10), .int (X 102 0), .ref (G.1 11), .int (X 103 0), .ref (G.1 12), .ref (G.1 13), .int (X 104 0), .ref (G.1 14), .int (X 105 0), .int (X 106 0), .int (X 107 0), .ref (G.1 15), .ref (G.1 16), .ref (G.1 17), .ref (G.1 18), .int (X 108 0), .int (X 109 0), .int (X 110 0), .ref (G.1 19), .int (X 111 0), .ref (G.1 20), .ref (G.1 21), .int (X 112 0), .ref (G.1 22), .ref (G.1 23), .ref (G.1 24), .int (X 113 0), .int (X 114 0), .int (X 115 0), .ref (G.1 25), .ref (G.1 26), .ref (G.1 27), .ref (G.1 28), .ref (G.1 29), .ref (G.1 30), .ref (G.1 31), .ref (G.1 32), .int (X 116 0), .int (X 117 0), .ref (G.1 33), .int (X 118 0)], rfl, rfl, fun _ => rfl⟩
theorem mf_drawn (G : Gx) : isFld (mw G) 0 (G.1 0) 9 20 106 := fun X => ⟨[.int (X 100 0), .ref (G.1 1), .int (X 101 0), .ref (G.1 2), .ref (G.1 3), .ref (G.1 4), .ref (G.1 5), .ref (G.1 6), .ref (G.1 7), .ref (G.1 8), .ref (G.1 9), .ref (G.1 10), .int (X 102 0), .ref (G.1 11), .int (X 103 0), .ref (G.1 12), .ref (G.1 13), .int (X 104 0), .ref (G.1 14), .int (X 105 0), .int (X 106 0), .int (X 107 0), .ref (G.1 15), .ref (G.1 16), .ref (G.1 17), .ref (G.1 18), .int (X 108 0), .int (X 109 0), .int (X 110 0), .ref (G.1 19), .int (X 111 0), .ref (G.1 20), .ref (G.1 21), .int (X 112 0), .ref (G.1 22), .ref (G.1 23), .ref (G.1 24), .int (X 113 0), .int (X 114 0), .int (X 115 0), .ref (G.1 25), .ref (G.1 26), .ref (G.1 27), .ref (G.1 28), .ref (G.1 29), .ref (G.1 30), .ref (G.1 31), .ref (G.1 32), .int (X 116 0), .int (X 117 0), .ref (G.1 33), .int (X 118 0)], rfl, rfl, fun _ => rfl⟩
theorem mf_bouts (G : Gx) : isFld (mw G) 0 (G.1 0) 9 21 107 := fun X => ⟨[.int (X 100 0), .ref (G.1 1), .int (X 101 0), .ref (G.1 2), .ref (G.1 3), .ref (G.1 4), .ref (G.1 5), .ref (G.1 6), .ref (G.1 7), .ref (G.1 8), .ref (G.1 9), .ref (G.1 10), .int (X 102 0), .ref (G.1 11), .int (X 103 0), .ref (G.1 12), .ref (G.1 13), .int (X 104 0), .ref (G.1 14), .int (X 105 0), .int (X 106 0), .int (X 107 0), .ref (G.1 15), .ref (G.1 16), .ref (G.1 17), .ref (G.1 18), .int (X 108 0), .int (X 109 0), .int (X 110 0), .ref (G.1 19), .int (X 111 0), .ref (G.1 20), .ref (G.1 21), .int (X 112 0), .ref (G.1 22), .ref (G.1 23), .ref (G.1 24), .int (X 113 0), .int (X 114 0), .int (X 115 0), .ref (G.1 25), .ref (G.1 26), .ref (G.1 27), .ref (G.1 28), .ref (G.1 29), .ref (G.1 30), .ref (G.1 31), .ref (G.1 32), .int (X 116 0), .int (X 117 0), .ref (G.1 33), .int (X 118 0)], rfl, rfl, fun _ => rfl⟩
theorem mf_lacking (G : Gx) : isFld (mw G) 0 (G.1 0) 9 26 108 := fun X => ⟨[.int (X 100 0), .ref (G.1 1), .int (X 101 0), .ref (G.1 2), .ref (G.1 3), .ref (G.1 4), .ref (G.1 5), .ref (G.1 6), .ref (G.1 7), .ref (G.1 8), .ref (G.1 9), .ref (G.1 10), .int (X 102 0), .ref (G.1 11), .int (X 103 0), .ref (G.1 12), .ref (G.1 13), .int (X 104 0), .ref (G.1 14), .int (X 105 0), .int (X 106 0), .int (X 107 0), .ref (G.1 15), .ref (G.1 16), .ref (G.1 17), .ref (G.1 18), .int (X 108 0), .int (X 109 0), .int (X 110 0), .ref (G.1 19), .int (X 111 0), .ref (G.1 20), .ref (G.1 21), .int (X 112 0), .ref (G.1 22), .ref (G.1 23), .ref (G.1 24), .int (X 113 0), .int (X 114 0), .int (X 115 0), .ref (G.1 25), .ref (G.1 26), .ref (G.1 27), .ref (G.1 28), .ref (G.1 29), .ref (G.1 30), .ref (G.1 31), .ref (G.1 32), .int (X 116 0), .int (X 117 0), .ref (G.1 33), .int (X 118 0)], rfl, rfl, fun _ => rfl⟩
theorem mf_cost (G : Gx) : isFld (mw G) 0 (G.1 0) 9 27 109 := fun X => ⟨[.int (X 100 0), .ref (G.1 1), .int (X 101 0), .ref (G.1 2), .ref (G.1 3), .ref (G.1 4), .ref (G.1 5), .ref (G.1 6), .ref (G.1 7), .ref (G.1 8), .ref (G.1 9), .ref (G.1 10), .int (X 102 0), .ref (G.1 11), .int (X 103 0), .ref (G.1 12), .ref (G.1 13), .int (X 104 0), .ref (G.1 14), .int (X 105 0), .int (X 106 0), .int (X 107 0), .ref (G.1 15), .ref (G.1 16), .ref (G.1 17), .ref (G.1 18), .int (X 108 0), .int (X 109 0), .int (X 110 0), .ref (G.1 19), .int (X 111 0), .ref (G.1 20), .ref (G.1 21), .int (X 112 0), .ref (G.1 22), .ref (G.1 23), .ref (G.1 24), .int (X 113 0), .int (X 114 0), .int (X 115 0), .ref (G.1 25), .ref (G.1 26), .ref (G.1 27), .ref (G.1 28), .ref (G.1 29), .ref (G.1 30), .ref (G.1 31), .ref (G.1 32), .int (X 116 0), .int (X 117 0), .ref (G.1 33), .int (X 118 0)], rfl, rfl, fun _ => rfl⟩
theorem mf_satOut (G : Gx) : isFld (mw G) 0 (G.1 0) 9 28 110 := fun X => ⟨[.int (X 100 0), .ref (G.1 1), .int (X 101 0), .ref (G.1 2), .ref (G.1 3), .ref (G.1 4), .ref (G.1 5), .ref (G.1 6), .ref (G.1 7), .ref (G.1 8), .ref (G.1 9), .ref (G.1 10), .int (X 102 0), .ref (G.1 11), .int (X 103 0), .ref (G.1 12), .ref (G.1 13), .int (X 104 0), .ref (G.1 14), .int (X 105 0), .int (X 106 0), .int (X 107 0), .ref (G.1 15), .ref (G.1 16), .ref (G.1 17), .ref (G.1 18), .int (X 108 0), .int (X 109 0), .int (X 110 0), .ref (G.1 19), .int (X 111 0), .ref (G.1 20), .ref (G.1 21), .int (X 112 0), .ref (G.1 22), .ref (G.1 23), .ref (G.1 24), .int (X 113 0), .int (X 114 0), .int (X 115 0), .ref (G.1 25), .ref (G.1 26), .ref (G.1 27), .ref (G.1 28), .ref (G.1 29), .ref (G.1 30), .ref (G.1 31), .ref (G.1 32), .int (X 116 0), .int (X 117 0), .ref (G.1 33), .int (X 118 0)], rfl, rfl, fun _ => rfl⟩
theorem mf_presentMany (G : Gx) : isFld (mw G) 0 (G.1 0) 9 30 111 := fun X => ⟨[.int (X 100 0), .ref (G.1 1), .int (X 101 0), .ref (G.1 2), .ref (G.1 3), .ref (G.1 4), .ref (G.1 5), .ref (G.1 6), .ref (G.1 7), .ref (G.1 8), .ref (G.1 9), .ref (G.1 10), .int (X 102 0), .ref (G.1 11), .int (X 103 0), .ref (G.1 12), .ref (G.1 13), .int (X 104 0), .ref (G.1 14), .int (X 105 0), .int (X 106 0), .int (X 107 0), .ref (G.1 15), .ref (G.1 16), .ref (G.1 17), .ref (G.1 18), .int (X 108 0), .int (X 109 0), .int (X 110 0), .ref (G.1 19), .int (X 111 0), .ref (G.1 20), .ref (G.1 21), .int (X 112 0), .ref (G.1 22), .ref (G.1 23), .ref (G.1 24), .int (X 113 0), .int (X 114 0), .int (X 115 0), .ref (G.1 25), .ref (G.1 26), .ref (G.1 27), .ref (G.1 28), .ref (G.1 29), .ref (G.1 30), .ref (G.1 31), .ref (G.1 32), .int (X 116 0), .int (X 117 0), .ref (G.1 33), .int (X 118 0)], rfl, rfl, fun _ => rfl⟩
theorem mf_lines (G : Gx) : isFld (mw G) 0 (G.1 0) 9 33 112 := fun X => ⟨[.int (X 100 0), .ref (G.1 1), .int (X 101 0), .ref (G.1 2), .ref (G.1 3), .ref (G.1 4), .ref (G.1 5), .ref (G.1 6), .ref (G.1 7), .ref (G.1 8), .ref (G.1 9), .ref (G.1 10), .int (X 102 0), .ref (G.1 11), .int (X 103 0), .ref (G.1 12), .ref (G.1 13), .int (X 104 0), .ref (G.1 14), .int (X 105 0), .int (X 106 0), .int (X 107 0), .ref (G.1 15), .ref (G.1 16), .ref (G.1 17), .ref (G.1 18), .int (X 108 0), .int (X 109 0), .int (X 110 0), .ref (G.1 19), .int (X 111 0), .ref (G.1 20), .ref (G.1 21), .int (X 112 0), .ref (G.1 22), .ref (G.1 23), .ref (G.1 24), .int (X 113 0), .int (X 114 0), .int (X 115 0), .ref (G.1 25), .ref (G.1 26), .ref (G.1 27), .ref (G.1 28), .ref (G.1 29), .ref (G.1 30), .ref (G.1 31), .ref (G.1 32), .int (X 116 0), .int (X 117 0), .ref (G.1 33), .int (X 118 0)], rfl, rfl, fun _ => rfl⟩
theorem mf_writtenTimes (G : Gx) : isFld (mw G) 0 (G.1 0) 9 37 113 := fun X => ⟨[.int (X 100 0), .ref (G.1 1), .int (X 101 0), .ref (G.1 2), .ref (G.1 3), .ref (G.1 4), .ref (G.1 5), .ref (G.1 6), .ref (G.1 7), .ref (G.1 8), .ref (G.1 9), .ref (G.1 10), .int (X 102 0), .ref (G.1 11), .int (X 103 0), .ref (G.1 12), .ref (G.1 13), .int (X 104 0), .ref (G.1 14), .int (X 105 0), .int (X 106 0), .int (X 107 0), .ref (G.1 15), .ref (G.1 16), .ref (G.1 17), .ref (G.1 18), .int (X 108 0), .int (X 109 0), .int (X 110 0), .ref (G.1 19), .int (X 111 0), .ref (G.1 20), .ref (G.1 21), .int (X 112 0), .ref (G.1 22), .ref (G.1 23), .ref (G.1 24), .int (X 113 0), .int (X 114 0), .int (X 115 0), .ref (G.1 25), .ref (G.1 26), .ref (G.1 27), .ref (G.1 28), .ref (G.1 29), .ref (G.1 30), .ref (G.1 31), .ref (G.1 32), .int (X 116 0), .int (X 117 0), .ref (G.1 33), .int (X 118 0)], rfl, rfl, fun _ => rfl⟩
theorem mf_isWritten (G : Gx) : isFld (mw G) 0 (G.1 0) 9 38 114 := fun X => ⟨[.int (X 100 0), .ref (G.1 1), .int (X 101 0), .ref (G.1 2), .ref (G.1 3), .ref (G.1 4), .ref (G.1 5), .ref (G.1 6), .ref (G.1 7), .ref (G.1 8), .ref (G.1 9), .ref (G.1 10), .int (X 102 0), .ref (G.1 11), .int (X 103 0), .ref (G.1 12), .ref (G.1 13), .int (X 104 0), .ref (G.1 14), .int (X 105 0), .int (X 106 0), .int (X 107 0), .ref (G.1 15), .ref (G.1 16), .ref (G.1 17), .ref (G.1 18), .int (X 108 0), .int (X 109 0), .int (X 110 0), .ref (G.1 19), .int (X 111 0), .ref (G.1 20), .ref (G.1 21), .int (X 112 0), .ref (G.1 22), .ref (G.1 23), .ref (G.1 24), .int (X 113 0), .int (X 114 0), .int (X 115 0), .ref (G.1 25), .ref (G.1 26), .ref (G.1 27), .ref (G.1 28), .ref (G.1 29), .ref (G.1 30), .ref (G.1 31), .ref (G.1 32), .int (X 116 0), .int (X 117 0), .ref (G.1 33), .int (X 118 0)], rfl, rfl, fun _ => rfl⟩
theorem mf_writtenLines (G : Gx) : isFld (mw G) 0 (G.1 0) 9 39 115 := fun X => ⟨[.int (X 100 0), .ref (G.1 1), .int (X 101 0), .ref (G.1 2), .ref (G.1 3), .ref (G.1 4), .ref (G.1 5), .ref (G.1 6), .ref (G.1 7), .ref (G.1 8), .ref (G.1 9), .ref (G.1 10), .int (X 102 0), .ref (G.1 11), .int (X 103 0), .ref (G.1 12), .ref (G.1 13), .int (X 104 0), .ref (G.1 14), .int (X 105 0), .int (X 106 0), .int (X 107 0), .ref (G.1 15), .ref (G.1 16), .ref (G.1 17), .ref (G.1 18), .int (X 108 0), .int (X 109 0), .int (X 110 0), .ref (G.1 19), .int (X 111 0), .ref (G.1 20), .ref (G.1 21), .int (X 112 0), .ref (G.1 22), .ref (G.1 23), .ref (G.1 24), .int (X 113 0), .int (X 114 0), .int (X 115 0), .ref (G.1 25), .ref (G.1 26), .ref (G.1 27), .ref (G.1 28), .ref (G.1 29), .ref (G.1 30), .ref (G.1 31), .ref (G.1 32), .int (X 116 0), .int (X 117 0), .ref (G.1 33), .int (X 118 0)], rfl, rfl, fun _ => rfl⟩
theorem mf_hadPlayOff (G : Gx) : isFld (mw G) 0 (G.1 0) 9 48 116 := fun X => ⟨[.int (X 100 0), .ref (G.1 1), .int (X 101 0), .ref (G.1 2), .ref (G.1 3), .ref (G.1 4), .ref (G.1 5), .ref (G.1 6), .ref (G.1 7), .ref (G.1 8), .ref (G.1 9), .ref (G.1 10), .int (X 102 0), .ref (G.1 11), .int (X 103 0), .ref (G.1 12), .ref (G.1 13), .int (X 104 0), .ref (G.1 14), .int (X 105 0), .int (X 106 0), .int (X 107 0), .ref (G.1 15), .ref (G.1 16), .ref (G.1 17), .ref (G.1 18), .int (X 108 0), .int (X 109 0), .int (X 110 0), .ref (G.1 19), .int (X 111 0), .ref (G.1 20), .ref (G.1 21), .int (X 112 0), .ref (G.1 22), .ref (G.1 23), .ref (G.1 24), .int (X 113 0), .int (X 114 0), .int (X 115 0), .ref (G.1 25), .ref (G.1 26), .ref (G.1 27), .ref (G.1 28), .ref (G.1 29), .ref (G.1 30), .ref (G.1 31), .ref (G.1 32), .int (X 116 0), .int (X 117 0), .ref (G.1 33), .int (X 118 0)], rfl, rfl, fun _ => rfl⟩
theorem mf_playMany (G : Gx) : isFld (mw G) 0 (G.1 0) 9 49 117 := fun X => ⟨[.int (X 100 0), .ref (G.1 1), .int (X 101 0), .ref (G.1 2), .ref (G.1 3), .ref (G.1 4), .ref (G.1 5), .ref (G.1 6), .ref (G.1 7), .ref (G.1 8), .ref (G.1 9), .ref (G.1 10), .int (X 102 0), .ref (G.1 11), .int (X 103 0), .ref (G.1 12), .ref (G.1 13), .int (X 104 0), .ref (G.1 14), .int (X 105 0), .int (X 106 0), .int (X 107 0), .ref (G.1 15), .ref (G.1 16), .ref (G.1 17), .ref (G.1 18), .int (X 108 0), .int (X 109 0), .int (X 110 0), .ref (G.1 19), .int (X 111 0), .ref (G.1 20), .ref (G.1 21), .int (X 112 0), .ref (G.1 22), .ref (G.1 23), .ref (G.1 24), .int (X 113 0), .int (X 114 0), .int (X 115 0), .ref (G.1 25), .ref (G.1 26), .ref (G.1 27), .ref (G.1 28), .ref (G.1 29), .ref (G.1 30), .ref (G.1 31), .ref (G.1 32), .int (X 116 0), .int (X 117 0), .ref (G.1 33), .int (X 118 0)], rfl, rfl, fun _ => rfl⟩
theorem mf_champion (G : Gx) : isFld (mw G) 0 (G.1 0) 9 51 118 := fun X => ⟨[.int (X 100 0), .ref (G.1 1), .int (X 101 0), .ref (G.1 2), .ref (G.1 3), .ref (G.1 4), .ref (G.1 5), .ref (G.1 6), .ref (G.1 7), .ref (G.1 8), .ref (G.1 9), .ref (G.1 10), .int (X 102 0), .ref (G.1 11), .int (X 103 0), .ref (G.1 12), .ref (G.1 13), .int (X 104 0), .ref (G.1 14), .int (X 105 0), .int (X 106 0), .int (X 107 0), .ref (G.1 15), .ref (G.1 16), .ref (G.1 17), .ref (G.1 18), .int (X 108 0), .int (X 109 0), .int (X 110 0), .ref (G.1 19), .int (X 111 0), .ref (G.1 20), .ref (G.1 21), .int (X 112 0), .ref (G.1 22), .ref (G.1 23), .ref (G.1 24), .int (X 113 0), .int (X 114 0), .int (X 115 0), .ref (G.1 25), .ref (G.1 26), .ref (G.1 27), .ref (G.1 28), .ref (G.1 29), .ref (G.1 30), .ref (G.1 31), .ref (G.1 32), .int (X 116 0), .int (X 117 0), .ref (G.1 33), .int (X 118 0)], rfl, rfl, fun _ => rfl⟩
theorem mr_came (G : Gx) : isRef (mw G) 0 (G.1 0) 9 1 (G.1 1) := fun X => ⟨_, rfl, rfl⟩
theorem mr_kindOf (G : Gx) : isRef (mw G) 0 (G.1 0) 9 3 (G.1 2) := fun X => ⟨_, rfl, rfl⟩
theorem mr_stableOf (G : Gx) : isRef (mw G) 0 (G.1 0) 9 4 (G.1 3) := fun X => ⟨_, rfl, rfl⟩
theorem mr_kinOf (G : Gx) : isRef (mw G) 0 (G.1 0) 9 5 (G.1 4) := fun X => ⟨_, rfl, rfl⟩
theorem mr_hasLeft (G : Gx) : isRef (mw G) 0 (G.1 0) 9 6 (G.1 5) := fun X => ⟨_, rfl, rfl⟩
theorem mr_isAbsent (G : Gx) : isRef (mw G) 0 (G.1 0) 9 7 (G.1 6) := fun X => ⟨_, rfl, rfl⟩
theorem mr_winsOf (G : Gx) : isRef (mw G) 0 (G.1 0) 9 8 (G.1 7) := fun X => ⟨_, rfl, rfl⟩
theorem mr_lossesOf (G : Gx) : isRef (mw G) 0 (G.1 0) 9 9 (G.1 8) := fun X => ⟨_, rfl, rfl⟩
theorem mr_titles (G : Gx) : isRef (mw G) 0 (G.1 0) 9 10 (G.1 9) := fun X => ⟨_, rfl, rfl⟩
theorem mr_marks (G : Gx) : isRef (mw G) 0 (G.1 0) 9 11 (G.1 10) := fun X => ⟨_, rfl, rfl⟩
theorem mr_rungs (G : Gx) : isRef (mw G) 0 (G.1 0) 9 13 (G.1 11) := fun X => ⟨_, rfl, rfl⟩
theorem mr_sheetSize (G : Gx) : isRef (mw G) 0 (G.1 0) 9 15 (G.1 12) := fun X => ⟨_, rfl, rfl⟩
theorem mr_sheets (G : Gx) : isRef (mw G) 0 (G.1 0) 9 16 (G.1 13) := fun X => ⟨_, rfl, rfl⟩
theorem mr_copied (G : Gx) : isRef (mw G) 0 (G.1 0) 9 18 (G.1 14) := fun X => ⟨_, rfl, rfl⟩
theorem mr_boutDay (G : Gx) : isRef (mw G) 0 (G.1 0) 9 22 (G.1 15) := fun X => ⟨_, rfl, rfl⟩
theorem mr_boutUpper (G : Gx) : isRef (mw G) 0 (G.1 0) 9 23 (G.1 16) := fun X => ⟨_, rfl, rfl⟩
theorem mr_boutLower (G : Gx) : isRef (mw G) 0 (G.1 0) 9 24 (G.1 17) := fun X => ⟨_, rfl, rfl⟩
theorem mr_boutWon (G : Gx) : isRef (mw G) 0 (G.1 0) 9 25 (G.1 18) := fun X => ⟨_, rfl, rfl⟩
theorem mr_present (G : Gx) : isRef (mw G) 0 (G.1 0) 9 29 (G.1 19) := fun X => ⟨_, rfl, rfl⟩
theorem mr_pairCost (G : Gx) : isRef (mw G) 0 (G.1 0) 9 31 (G.1 20) := fun X => ⟨_, rfl, rfl⟩
theorem mr_leastOf (G : Gx) : isRef (mw G) 0 (G.1 0) 9 32 (G.1 21) := fun X => ⟨_, rfl, rfl⟩
theorem mr_lineLow (G : Gx) : isRef (mw G) 0 (G.1 0) 9 34 (G.1 22) := fun X => ⟨_, rfl, rfl⟩
theorem mr_lineHigh (G : Gx) : isRef (mw G) 0 (G.1 0) 9 35 (G.1 23) := fun X => ⟨_, rfl, rfl⟩
theorem mr_lineUp (G : Gx) : isRef (mw G) 0 (G.1 0) 9 36 (G.1 24) := fun X => ⟨_, rfl, rfl⟩
theorem mr_whyOf (G : Gx) : isRef (mw G) 0 (G.1 0) 9 40 (G.1 25) := fun X => ⟨_, rfl, rfl⟩
theorem mr_oldRung (G : Gx) : isRef (mw G) 0 (G.1 0) 9 41 (G.1 26) := fun X => ⟨_, rfl, rfl⟩
theorem mr_writtenRung (G : Gx) : isRef (mw G) 0 (G.1 0) 9 42 (G.1 27) := fun X => ⟨_, rfl, rfl⟩
theorem mr_besideRung (G : Gx) : isRef (mw G) 0 (G.1 0) 9 43 (G.1 28) := fun X => ⟨_, rfl, rfl⟩
theorem mr_aimOf (G : Gx) : isRef (mw G) 0 (G.1 0) 9 44 (G.1 29) := fun X => ⟨_, rfl, rfl⟩
theorem mr_ordered (G : Gx) : isRef (mw G) 0 (G.1 0) 9 45 (G.1 30) := fun X => ⟨_, rfl, rfl⟩
theorem mr_scores (G : Gx) : isRef (mw G) 0 (G.1 0) 9 46 (G.1 31) := fun X => ⟨_, rfl, rfl⟩
theorem mr_boardBefore (G : Gx) : isRef (mw G) 0 (G.1 0) 9 47 (G.1 32) := fun X => ⟨_, rfl, rfl⟩
theorem mr_play (G : Gx) : isRef (mw G) 0 (G.1 0) 9 50 (G.1 33) := fun X => ⟨_, rfl, rfl⟩
theorem ma_came (G : Gx) : isRow (mw G) 1 (G.1 1) G.2.1 6 1 := fun X => ⟨rfl, fun _ _ => rfl⟩
theorem ma_kindOf (G : Gx) : isRow (mw G) 2 (G.1 2) G.2.1 16 2 := fun X => ⟨rfl, fun _ _ => rfl⟩
theorem ma_stableOf (G : Gx) : isRow (mw G) 3 (G.1 3) G.2.1 16 3 := fun X => ⟨rfl, fun _ _ => rfl⟩
theorem ma_kinOf (G : Gx) : isRow (mw G) 4 (G.1 4) G.2.1 16 4 := fun X => ⟨rfl, fun _ _ => rfl⟩
theorem ma_hasLeft (G : Gx) : isRow (mw G) 5 (G.1 5) G.2.2.1 16 5 := fun X => ⟨rfl, fun _ _ => rfl⟩
theorem ma_isAbsent (G : Gx) : isRow (mw G) 6 (G.1 6) G.2.2.1 16 6 := fun X => ⟨rfl, fun _ _ => rfl⟩
theorem ma_winsOf (G : Gx) : isRow (mw G) 7 (G.1 7) G.2.1 16 7 := fun X => ⟨rfl, fun _ _ => rfl⟩
theorem ma_lossesOf (G : Gx) : isRow (mw G) 8 (G.1 8) G.2.1 16 8 := fun X => ⟨rfl, fun _ _ => rfl⟩
theorem ma_titles (G : Gx) : isRow (mw G) 9 (G.1 9) G.2.1 16 9 := fun X => ⟨rfl, fun _ _ => rfl⟩
theorem ma_marks (G : Gx) : isRow (mw G) 10 (G.1 10) G.2.1 16 10 := fun X => ⟨rfl, fun _ _ => rfl⟩
theorem ma_rungs (G : Gx) : isRow (mw G) 11 (G.1 11) G.2.1 16 11 := fun X => ⟨rfl, fun _ _ => rfl⟩
theorem ma_sheetSize (G : Gx) : isRow (mw G) 12 (G.1 12) G.2.1 4 12 := fun X => ⟨rfl, fun _ _ => rfl⟩
theorem ma_sheets (G : Gx) : isRow (mw G) 13 (G.1 13) G.2.2.2.1 64 13 := fun X => ⟨rfl, fun _ _ => rfl⟩
theorem ma_copied (G : Gx) : isRow (mw G) 14 (G.1 14) G.2.2.2.1 16 14 := fun X => ⟨rfl, fun _ _ => rfl⟩
theorem ma_boutDay (G : Gx) : isRow (mw G) 15 (G.1 15) G.2.1 120 15 := fun X => ⟨rfl, fun _ _ => rfl⟩
theorem ma_boutUpper (G : Gx) : isRow (mw G) 16 (G.1 16) G.2.1 120 16 := fun X => ⟨rfl, fun _ _ => rfl⟩
theorem ma_boutLower (G : Gx) : isRow (mw G) 17 (G.1 17) G.2.1 120 17 := fun X => ⟨rfl, fun _ _ => rfl⟩
theorem ma_boutWon (G : Gx) : isRow (mw G) 18 (G.1 18) G.2.1 120 18 := fun X => ⟨rfl, fun _ _ => rfl⟩
theorem ma_present (G : Gx) : isRow (mw G) 19 (G.1 19) G.2.1 16 19 := fun X => ⟨rfl, fun _ _ => rfl⟩
theorem ma_pairCost (G : Gx) : isRow (mw G) 20 (G.1 20) G.2.1 256 20 := fun X => ⟨rfl, fun _ _ => rfl⟩
theorem ma_leastOf (G : Gx) : isRow (mw G) 21 (G.1 21) G.2.1 65536 21 := fun X => ⟨rfl, fun _ _ => rfl⟩
theorem ma_lineLow (G : Gx) : isRow (mw G) 22 (G.1 22) G.2.1 12 22 := fun X => ⟨rfl, fun _ _ => rfl⟩
theorem ma_lineHigh (G : Gx) : isRow (mw G) 23 (G.1 23) G.2.1 12 23 := fun X => ⟨rfl, fun _ _ => rfl⟩
theorem ma_lineUp (G : Gx) : isRow (mw G) 24 (G.1 24) G.2.1 12 24 := fun X => ⟨rfl, fun _ _ => rfl⟩
theorem ma_whyOf (G : Gx) : isRow (mw G) 25 (G.1 25) G.2.1 16 25 := fun X => ⟨rfl, fun _ _ => rfl⟩
theorem ma_oldRung (G : Gx) : isRow (mw G) 26 (G.1 26) G.2.1 16 26 := fun X => ⟨rfl, fun _ _ => rfl⟩
theorem ma_writtenRung (G : Gx) : isRow (mw G) 27 (G.1 27) G.2.1 16 27 := fun X => ⟨rfl, fun _ _ => rfl⟩
theorem ma_besideRung (G : Gx) : isRow (mw G) 28 (G.1 28) G.2.1 16 28 := fun X => ⟨rfl, fun _ _ => rfl⟩
theorem ma_aimOf (G : Gx) : isRow (mw G) 29 (G.1 29) G.2.1 16 29 := fun X => ⟨rfl, fun _ _ => rfl⟩
theorem ma_ordered (G : Gx) : isRow (mw G) 30 (G.1 30) G.2.1 16 30 := fun X => ⟨rfl, fun _ _ => rfl⟩
theorem ma_scores (G : Gx) : isRow (mw G) 31 (G.1 31) G.2.1 16 31 := fun X => ⟨rfl, fun _ _ => rfl⟩
theorem ma_boardBefore (G : Gx) : isRow (mw G) 32 (G.1 32) G.2.1 16 32 := fun X => ⟨rfl, fun _ _ => rfl⟩
theorem ma_play (G : Gx) : isRow (mw G) 33 (G.1 33) G.2.1 16 33 := fun X => ⟨rfl, fun _ _ => rfl⟩
theorem mG_latest {K : Cx} {G : Gx} {nL : Nat} {cc : ByteArray} {own : String} {d : Nat} {X : St} {pc : Nat} {lv : List (Nat × Value)} {rest : List Value} (C : XC K (mw G) nL cc own d (tyG G)) {index : Nat} (hlink : Cond.fieldLink own index "RankBoardModel" "latest" "I" ∈ tA) (hd : decode cc pc = .ok (.getfield index, 3)) (kk : WX K (mw G) nL X (pc + 3) lv (.int (X 100 0) :: rest)) : WX K (mw G) nL X pc lv (.ref (G.1 0) :: rest) := x_getI C (mf_latest G) rfl (by decide) inX9 hlink rfl hd kk
theorem mP_latest {K : Cx} {G : Gx} {nL : Nat} {cc : ByteArray} {own : String} {d : Nat} {X : St} {pc : Nat} {lv : List (Nat × Value)} {rest : List Value} (C : XC K (mw G) nL cc own d (tyG G)) {index : Nat} (hlink : Cond.fieldLink own index "RankBoardModel" "latest" "I" ∈ tA) {v : Int32} (hd : decode cc pc = .ok (.putfield index, 3)) (kk : WX K (mw G) nL (ux X 100 0 v) (pc + 3) lv rest) : WX K (mw G) nL X pc lv (.int v :: .ref (G.1 0) :: rest) := x_putI C (mf_latest G) rfl (by decide) inX9 tyX9 tyX9_ok nmX9 hlink rfl rfl rfl rfl hd kk
theorem mG_ever {K : Cx} {G : Gx} {nL : Nat} {cc : ByteArray} {own : String} {d : Nat} {X : St} {pc : Nat} {lv : List (Nat × Value)} {rest : List Value} (C : XC K (mw G) nL cc own d (tyG G)) {index : Nat} (hlink : Cond.fieldLink own index "RankBoardModel" "ever" "I" ∈ tA) (hd : decode cc pc = .ok (.getfield index, 3)) (kk : WX K (mw G) nL X (pc + 3) lv (.int (X 101 0) :: rest)) : WX K (mw G) nL X pc lv (.ref (G.1 0) :: rest) := x_getI C (mf_ever G) rfl (by decide) inX9 hlink rfl hd kk
theorem mP_ever {K : Cx} {G : Gx} {nL : Nat} {cc : ByteArray} {own : String} {d : Nat} {X : St} {pc : Nat} {lv : List (Nat × Value)} {rest : List Value} (C : XC K (mw G) nL cc own d (tyG G)) {index : Nat} (hlink : Cond.fieldLink own index "RankBoardModel" "ever" "I" ∈ tA) {v : Int32} (hd : decode cc pc = .ok (.putfield index, 3)) (kk : WX K (mw G) nL (ux X 101 0 v) (pc + 3) lv rest) : WX K (mw G) nL X pc lv (.int v :: .ref (G.1 0) :: rest) := x_putI C (mf_ever G) rfl (by decide) inX9 tyX9 tyX9_ok nmX9 hlink rfl rfl rfl rfl hd kk
theorem mG_there {K : Cx} {G : Gx} {nL : Nat} {cc : ByteArray} {own : String} {d : Nat} {X : St} {pc : Nat} {lv : List (Nat × Value)} {rest : List Value} (C : XC K (mw G) nL cc own d (tyG G)) {index : Nat} (hlink : Cond.fieldLink own index "RankBoardModel" "there" "I" ∈ tA) (hd : decode cc pc = .ok (.getfield index, 3)) (kk : WX K (mw G) nL X (pc + 3) lv (.int (X 102 0) :: rest)) : WX K (mw G) nL X pc lv (.ref (G.1 0) :: rest) := x_getI C (mf_there G) rfl (by decide) inX9 hlink rfl hd kk
theorem mP_there {K : Cx} {G : Gx} {nL : Nat} {cc : ByteArray} {own : String} {d : Nat} {X : St} {pc : Nat} {lv : List (Nat × Value)} {rest : List Value} (C : XC K (mw G) nL cc own d (tyG G)) {index : Nat} (hlink : Cond.fieldLink own index "RankBoardModel" "there" "I" ∈ tA) {v : Int32} (hd : decode cc pc = .ok (.putfield index, 3)) (kk : WX K (mw G) nL (ux X 102 0 v) (pc + 3) lv rest) : WX K (mw G) nL X pc lv (.int v :: .ref (G.1 0) :: rest) := x_putI C (mf_there G) rfl (by decide) inX9 tyX9 tyX9_ok nmX9 hlink rfl rfl rfl rfl hd kk
theorem mG_isMeet {K : Cx} {G : Gx} {nL : Nat} {cc : ByteArray} {own : String} {d : Nat} {X : St} {pc : Nat} {lv : List (Nat × Value)} {rest : List Value} (C : XC K (mw G) nL cc own d (tyG G)) {index : Nat} (hlink : Cond.fieldLink own index "RankBoardModel" "isMeet" "Z" ∈ tA) (hd : decode cc pc = .ok (.getfield index, 3)) (kk : WX K (mw G) nL X (pc + 3) lv (.int (X 103 0) :: rest)) : WX K (mw G) nL X pc lv (.ref (G.1 0) :: rest) := x_getI C (mf_isMeet G) rfl (by decide) inX9 hlink rfl hd kk
theorem mP_isMeet {K : Cx} {G : Gx} {nL : Nat} {cc : ByteArray} {own : String} {d : Nat} {X : St} {pc : Nat} {lv : List (Nat × Value)} {rest : List Value} (C : XC K (mw G) nL cc own d (tyG G)) {index : Nat} (hlink : Cond.fieldLink own index "RankBoardModel" "isMeet" "Z" ∈ tA) {v : Int32} (hn : narrow .boolean (.int v) = .int v) (hd : decode cc pc = .ok (.putfield index, 3)) (kk : WX K (mw G) nL (ux X 103 0 v) (pc + 3) lv rest) : WX K (mw G) nL X pc lv (.int v :: .ref (G.1 0) :: rest) := x_putI C (mf_isMeet G) rfl (by decide) inX9 tyX9 tyX9_ok nmX9 hlink rfl rfl hn rfl hd kk
theorem mG_priceSheet {K : Cx} {G : Gx} {nL : Nat} {cc : ByteArray} {own : String} {d : Nat} {X : St} {pc : Nat} {lv : List (Nat × Value)} {rest : List Value} (C : XC K (mw G) nL cc own d (tyG G)) {index : Nat} (hlink : Cond.fieldLink own index "RankBoardModel" "priceSheet" "I" ∈ tA) (hd : decode cc pc = .ok (.getfield index, 3)) (kk : WX K (mw G) nL X (pc + 3) lv (.int (X 104 0) :: rest)) : WX K (mw G) nL X pc lv (.ref (G.1 0) :: rest) := x_getI C (mf_priceSheet G) rfl (by decide) inX9 hlink rfl hd kk
theorem mP_priceSheet {K : Cx} {G : Gx} {nL : Nat} {cc : ByteArray} {own : String} {d : Nat} {X : St} {pc : Nat} {lv : List (Nat × Value)} {rest : List Value} (C : XC K (mw G) nL cc own d (tyG G)) {index : Nat} (hlink : Cond.fieldLink own index "RankBoardModel" "priceSheet" "I" ∈ tA) {v : Int32} (hd : decode cc pc = .ok (.putfield index, 3)) (kk : WX K (mw G) nL (ux X 104 0 v) (pc + 3) lv rest) : WX K (mw G) nL X pc lv (.int v :: .ref (G.1 0) :: rest) := x_putI C (mf_priceSheet G) rfl (by decide) inX9 tyX9 tyX9_ok nmX9 hlink rfl rfl rfl rfl hd kk
theorem mG_days {K : Cx} {G : Gx} {nL : Nat} {cc : ByteArray} {own : String} {d : Nat} {X : St} {pc : Nat} {lv : List (Nat × Value)} {rest : List Value} (C : XC K (mw G) nL cc own d (tyG G)) {index : Nat} (hlink : Cond.fieldLink own index "RankBoardModel" "days" "I" ∈ tA) (hd : decode cc pc = .ok (.getfield index, 3)) (kk : WX K (mw G) nL X (pc + 3) lv (.int (X 105 0) :: rest)) : WX K (mw G) nL X pc lv (.ref (G.1 0) :: rest) := x_getI C (mf_days G) rfl (by decide) inX9 hlink rfl hd kk
theorem mP_days {K : Cx} {G : Gx} {nL : Nat} {cc : ByteArray} {own : String} {d : Nat} {X : St} {pc : Nat} {lv : List (Nat × Value)} {rest : List Value} (C : XC K (mw G) nL cc own d (tyG G)) {index : Nat} (hlink : Cond.fieldLink own index "RankBoardModel" "days" "I" ∈ tA) {v : Int32} (hd : decode cc pc = .ok (.putfield index, 3)) (kk : WX K (mw G) nL (ux X 105 0 v) (pc + 3) lv rest) : WX K (mw G) nL X pc lv (.int v :: .ref (G.1 0) :: rest) := x_putI C (mf_days G) rfl (by decide) inX9 tyX9 tyX9_ok nmX9 hlink rfl rfl rfl rfl hd kk
theorem mG_drawn {K : Cx} {G : Gx} {nL : Nat} {cc : ByteArray} {own : String} {d : Nat} {X : St} {pc : Nat} {lv : List (Nat × Value)} {rest : List Value} (C : XC K (mw G) nL cc own d (tyG G)) {index : Nat} (hlink : Cond.fieldLink own index "RankBoardModel" "drawn" "I" ∈ tA) (hd : decode cc pc = .ok (.getfield index, 3)) (kk : WX K (mw G) nL X (pc + 3) lv (.int (X 106 0) :: rest)) : WX K (mw G) nL X pc lv (.ref (G.1 0) :: rest) := x_getI C (mf_drawn G) rfl (by decide) inX9 hlink rfl hd kk
theorem mP_drawn {K : Cx} {G : Gx} {nL : Nat} {cc : ByteArray} {own : String} {d : Nat} {X : St} {pc : Nat} {lv : List (Nat × Value)} {rest : List Value} (C : XC K (mw G) nL cc own d (tyG G)) {index : Nat} (hlink : Cond.fieldLink own index "RankBoardModel" "drawn" "I" ∈ tA) {v : Int32} (hd : decode cc pc = .ok (.putfield index, 3)) (kk : WX K (mw G) nL (ux X 106 0 v) (pc + 3) lv rest) : WX K (mw G) nL X pc lv (.int v :: .ref (G.1 0) :: rest) := x_putI C (mf_drawn G) rfl (by decide) inX9 tyX9 tyX9_ok nmX9 hlink rfl rfl rfl rfl hd kk
theorem mG_bouts {K : Cx} {G : Gx} {nL : Nat} {cc : ByteArray} {own : String} {d : Nat} {X : St} {pc : Nat} {lv : List (Nat × Value)} {rest : List Value} (C : XC K (mw G) nL cc own d (tyG G)) {index : Nat} (hlink : Cond.fieldLink own index "RankBoardModel" "bouts" "I" ∈ tA) (hd : decode cc pc = .ok (.getfield index, 3)) (kk : WX K (mw G) nL X (pc + 3) lv (.int (X 107 0) :: rest)) : WX K (mw G) nL X pc lv (.ref (G.1 0) :: rest) := x_getI C (mf_bouts G) rfl (by decide) inX9 hlink rfl hd kk
theorem mP_bouts {K : Cx} {G : Gx} {nL : Nat} {cc : ByteArray} {own : String} {d : Nat} {X : St} {pc : Nat} {lv : List (Nat × Value)} {rest : List Value} (C : XC K (mw G) nL cc own d (tyG G)) {index : Nat} (hlink : Cond.fieldLink own index "RankBoardModel" "bouts" "I" ∈ tA) {v : Int32} (hd : decode cc pc = .ok (.putfield index, 3)) (kk : WX K (mw G) nL (ux X 107 0 v) (pc + 3) lv rest) : WX K (mw G) nL X pc lv (.int v :: .ref (G.1 0) :: rest) := x_putI C (mf_bouts G) rfl (by decide) inX9 tyX9 tyX9_ok nmX9 hlink rfl rfl rfl rfl hd kk
theorem mG_lacking {K : Cx} {G : Gx} {nL : Nat} {cc : ByteArray} {own : String} {d : Nat} {X : St} {pc : Nat} {lv : List (Nat × Value)} {rest : List Value} (C : XC K (mw G) nL cc own d (tyG G)) {index : Nat} (hlink : Cond.fieldLink own index "RankBoardModel" "lacking" "I" ∈ tA) (hd : decode cc pc = .ok (.getfield index, 3)) (kk : WX K (mw G) nL X (pc + 3) lv (.int (X 108 0) :: rest)) : WX K (mw G) nL X pc lv (.ref (G.1 0) :: rest) := x_getI C (mf_lacking G) rfl (by decide) inX9 hlink rfl hd kk
theorem mP_lacking {K : Cx} {G : Gx} {nL : Nat} {cc : ByteArray} {own : String} {d : Nat} {X : St} {pc : Nat} {lv : List (Nat × Value)} {rest : List Value} (C : XC K (mw G) nL cc own d (tyG G)) {index : Nat} (hlink : Cond.fieldLink own index "RankBoardModel" "lacking" "I" ∈ tA) {v : Int32} (hd : decode cc pc = .ok (.putfield index, 3)) (kk : WX K (mw G) nL (ux X 108 0 v) (pc + 3) lv rest) : WX K (mw G) nL X pc lv (.int v :: .ref (G.1 0) :: rest) := x_putI C (mf_lacking G) rfl (by decide) inX9 tyX9 tyX9_ok nmX9 hlink rfl rfl rfl rfl hd kk
theorem mG_cost {K : Cx} {G : Gx} {nL : Nat} {cc : ByteArray} {own : String} {d : Nat} {X : St} {pc : Nat} {lv : List (Nat × Value)} {rest : List Value} (C : XC K (mw G) nL cc own d (tyG G)) {index : Nat} (hlink : Cond.fieldLink own index "RankBoardModel" "cost" "I" ∈ tA) (hd : decode cc pc = .ok (.getfield index, 3)) (kk : WX K (mw G) nL X (pc + 3) lv (.int (X 109 0) :: rest)) : WX K (mw G) nL X pc lv (.ref (G.1 0) :: rest) := x_getI C (mf_cost G) rfl (by decide) inX9 hlink rfl hd kk
theorem mP_cost {K : Cx} {G : Gx} {nL : Nat} {cc : ByteArray} {own : String} {d : Nat} {X : St} {pc : Nat} {lv : List (Nat × Value)} {rest : List Value} (C : XC K (mw G) nL cc own d (tyG G)) {index : Nat} (hlink : Cond.fieldLink own index "RankBoardModel" "cost" "I" ∈ tA) {v : Int32} (hd : decode cc pc = .ok (.putfield index, 3)) (kk : WX K (mw G) nL (ux X 109 0 v) (pc + 3) lv rest) : WX K (mw G) nL X pc lv (.int v :: .ref (G.1 0) :: rest) := x_putI C (mf_cost G) rfl (by decide) inX9 tyX9 tyX9_ok nmX9 hlink rfl rfl rfl rfl hd kk
theorem mG_satOut {K : Cx} {G : Gx} {nL : Nat} {cc : ByteArray} {own : String} {d : Nat} {X : St} {pc : Nat} {lv : List (Nat × Value)} {rest : List Value} (C : XC K (mw G) nL cc own d (tyG G)) {index : Nat} (hlink : Cond.fieldLink own index "RankBoardModel" "satOut" "I" ∈ tA) (hd : decode cc pc = .ok (.getfield index, 3)) (kk : WX K (mw G) nL X (pc + 3) lv (.int (X 110 0) :: rest)) : WX K (mw G) nL X pc lv (.ref (G.1 0) :: rest) := x_getI C (mf_satOut G) rfl (by decide) inX9 hlink rfl hd kk
theorem mP_satOut {K : Cx} {G : Gx} {nL : Nat} {cc : ByteArray} {own : String} {d : Nat} {X : St} {pc : Nat} {lv : List (Nat × Value)} {rest : List Value} (C : XC K (mw G) nL cc own d (tyG G)) {index : Nat} (hlink : Cond.fieldLink own index "RankBoardModel" "satOut" "I" ∈ tA) {v : Int32} (hd : decode cc pc = .ok (.putfield index, 3)) (kk : WX K (mw G) nL (ux X 110 0 v) (pc + 3) lv rest) : WX K (mw G) nL X pc lv (.int v :: .ref (G.1 0) :: rest) := x_putI C (mf_satOut G) rfl (by decide) inX9 tyX9 tyX9_ok nmX9 hlink rfl rfl rfl rfl hd kk
theorem mG_presentMany {K : Cx} {G : Gx} {nL : Nat} {cc : ByteArray} {own : String} {d : Nat} {X : St} {pc : Nat} {lv : List (Nat × Value)} {rest : List Value} (C : XC K (mw G) nL cc own d (tyG G)) {index : Nat} (hlink : Cond.fieldLink own index "RankBoardModel" "presentMany" "I" ∈ tA) (hd : decode cc pc = .ok (.getfield index, 3)) (kk : WX K (mw G) nL X (pc + 3) lv (.int (X 111 0) :: rest)) : WX K (mw G) nL X pc lv (.ref (G.1 0) :: rest) := x_getI C (mf_presentMany G) rfl (by decide) inX9 hlink rfl hd kk
theorem mP_presentMany {K : Cx} {G : Gx} {nL : Nat} {cc : ByteArray} {own : String} {d : Nat} {X : St} {pc : Nat} {lv : List (Nat × Value)} {rest : List Value} (C : XC K (mw G) nL cc own d (tyG G)) {index : Nat} (hlink : Cond.fieldLink own index "RankBoardModel" "presentMany" "I" ∈ tA) {v : Int32} (hd : decode cc pc = .ok (.putfield index, 3)) (kk : WX K (mw G) nL (ux X 111 0 v) (pc + 3) lv rest) : WX K (mw G) nL X pc lv (.int v :: .ref (G.1 0) :: rest) := x_putI C (mf_presentMany G) rfl (by decide) inX9 tyX9 tyX9_ok nmX9 hlink rfl rfl rfl rfl hd kk
theorem mG_lines {K : Cx} {G : Gx} {nL : Nat} {cc : ByteArray} {own : String} {d : Nat} {X : St} {pc : Nat} {lv : List (Nat × Value)} {rest : List Value} (C : XC K (mw G) nL cc own d (tyG G)) {index : Nat} (hlink : Cond.fieldLink own index "RankBoardModel" "lines" "I" ∈ tA) (hd : decode cc pc = .ok (.getfield index, 3)) (kk : WX K (mw G) nL X (pc + 3) lv (.int (X 112 0) :: rest)) : WX K (mw G) nL X pc lv (.ref (G.1 0) :: rest) := x_getI C (mf_lines G) rfl (by decide) inX9 hlink rfl hd kk
theorem mP_lines {K : Cx} {G : Gx} {nL : Nat} {cc : ByteArray} {own : String} {d : Nat} {X : St} {pc : Nat} {lv : List (Nat × Value)} {rest : List Value} (C : XC K (mw G) nL cc own d (tyG G)) {index : Nat} (hlink : Cond.fieldLink own index "RankBoardModel" "lines" "I" ∈ tA) {v : Int32} (hd : decode cc pc = .ok (.putfield index, 3)) (kk : WX K (mw G) nL (ux X 112 0 v) (pc + 3) lv rest) : WX K (mw G) nL X pc lv (.int v :: .ref (G.1 0) :: rest) := x_putI C (mf_lines G) rfl (by decide) inX9 tyX9 tyX9_ok nmX9 hlink rfl rfl rfl rfl hd kk
theorem mG_writtenTimes {K : Cx} {G : Gx} {nL : Nat} {cc : ByteArray} {own : String} {d : Nat} {X : St} {pc : Nat} {lv : List (Nat × Value)} {rest : List Value} (C : XC K (mw G) nL cc own d (tyG G)) {index : Nat} (hlink : Cond.fieldLink own index "RankBoardModel" "writtenTimes" "I" ∈ tA) (hd : decode cc pc = .ok (.getfield index, 3)) (kk : WX K (mw G) nL X (pc + 3) lv (.int (X 113 0) :: rest)) : WX K (mw G) nL X pc lv (.ref (G.1 0) :: rest) := x_getI C (mf_writtenTimes G) rfl (by decide) inX9 hlink rfl hd kk
theorem mP_writtenTimes {K : Cx} {G : Gx} {nL : Nat} {cc : ByteArray} {own : String} {d : Nat} {X : St} {pc : Nat} {lv : List (Nat × Value)} {rest : List Value} (C : XC K (mw G) nL cc own d (tyG G)) {index : Nat} (hlink : Cond.fieldLink own index "RankBoardModel" "writtenTimes" "I" ∈ tA) {v : Int32} (hd : decode cc pc = .ok (.putfield index, 3)) (kk : WX K (mw G) nL (ux X 113 0 v) (pc + 3) lv rest) : WX K (mw G) nL X pc lv (.int v :: .ref (G.1 0) :: rest) := x_putI C (mf_writtenTimes G) rfl (by decide) inX9 tyX9 tyX9_ok nmX9 hlink rfl rfl rfl rfl hd kk
theorem mG_isWritten {K : Cx} {G : Gx} {nL : Nat} {cc : ByteArray} {own : String} {d : Nat} {X : St} {pc : Nat} {lv : List (Nat × Value)} {rest : List Value} (C : XC K (mw G) nL cc own d (tyG G)) {index : Nat} (hlink : Cond.fieldLink own index "RankBoardModel" "isWritten" "Z" ∈ tA) (hd : decode cc pc = .ok (.getfield index, 3)) (kk : WX K (mw G) nL X (pc + 3) lv (.int (X 114 0) :: rest)) : WX K (mw G) nL X pc lv (.ref (G.1 0) :: rest) := x_getI C (mf_isWritten G) rfl (by decide) inX9 hlink rfl hd kk
theorem mP_isWritten {K : Cx} {G : Gx} {nL : Nat} {cc : ByteArray} {own : String} {d : Nat} {X : St} {pc : Nat} {lv : List (Nat × Value)} {rest : List Value} (C : XC K (mw G) nL cc own d (tyG G)) {index : Nat} (hlink : Cond.fieldLink own index "RankBoardModel" "isWritten" "Z" ∈ tA) {v : Int32} (hn : narrow .boolean (.int v) = .int v) (hd : decode cc pc = .ok (.putfield index, 3)) (kk : WX K (mw G) nL (ux X 114 0 v) (pc + 3) lv rest) : WX K (mw G) nL X pc lv (.int v :: .ref (G.1 0) :: rest) := x_putI C (mf_isWritten G) rfl (by decide) inX9 tyX9 tyX9_ok nmX9 hlink rfl rfl hn rfl hd kk
theorem mG_writtenLines {K : Cx} {G : Gx} {nL : Nat} {cc : ByteArray} {own : String} {d : Nat} {X : St} {pc : Nat} {lv : List (Nat × Value)} {rest : List Value} (C : XC K (mw G) nL cc own d (tyG G)) {index : Nat} (hlink : Cond.fieldLink own index "RankBoardModel" "writtenLines" "I" ∈ tA) (hd : decode cc pc = .ok (.getfield index, 3)) (kk : WX K (mw G) nL X (pc + 3) lv (.int (X 115 0) :: rest)) : WX K (mw G) nL X pc lv (.ref (G.1 0) :: rest) := x_getI C (mf_writtenLines G) rfl (by decide) inX9 hlink rfl hd kk
theorem mP_writtenLines {K : Cx} {G : Gx} {nL : Nat} {cc : ByteArray} {own : String} {d : Nat} {X : St} {pc : Nat} {lv : List (Nat × Value)} {rest : List Value} (C : XC K (mw G) nL cc own d (tyG G)) {index : Nat} (hlink : Cond.fieldLink own index "RankBoardModel" "writtenLines" "I" ∈ tA) {v : Int32} (hd : decode cc pc = .ok (.putfield index, 3)) (kk : WX K (mw G) nL (ux X 115 0 v) (pc + 3) lv rest) : WX K (mw G) nL X pc lv (.int v :: .ref (G.1 0) :: rest) := x_putI C (mf_writtenLines G) rfl (by decide) inX9 tyX9 tyX9_ok nmX9 hlink rfl rfl rfl rfl hd kk
theorem mG_hadPlayOff {K : Cx} {G : Gx} {nL : Nat} {cc : ByteArray} {own : String} {d : Nat} {X : St} {pc : Nat} {lv : List (Nat × Value)} {rest : List Value} (C : XC K (mw G) nL cc own d (tyG G)) {index : Nat} (hlink : Cond.fieldLink own index "RankBoardModel" "hadPlayOff" "Z" ∈ tA) (hd : decode cc pc = .ok (.getfield index, 3)) (kk : WX K (mw G) nL X (pc + 3) lv (.int (X 116 0) :: rest)) : WX K (mw G) nL X pc lv (.ref (G.1 0) :: rest) := x_getI C (mf_hadPlayOff G) rfl (by decide) inX9 hlink rfl hd kk
theorem mP_hadPlayOff {K : Cx} {G : Gx} {nL : Nat} {cc : ByteArray} {own : String} {d : Nat} {X : St} {pc : Nat} {lv : List (Nat × Value)} {rest : List Value} (C : XC K (mw G) nL cc own d (tyG G)) {index : Nat} (hlink : Cond.fieldLink own index "RankBoardModel" "hadPlayOff" "Z" ∈ tA) {v : Int32} (hn : narrow .boolean (.int v) = .int v) (hd : decode cc pc = .ok (.putfield index, 3)) (kk : WX K (mw G) nL (ux X 116 0 v) (pc + 3) lv rest) : WX K (mw G) nL X pc lv (.int v :: .ref (G.1 0) :: rest) := x_putI C (mf_hadPlayOff G) rfl (by decide) inX9 tyX9 tyX9_ok nmX9 hlink rfl rfl hn rfl hd kk
theorem mG_playMany {K : Cx} {G : Gx} {nL : Nat} {cc : ByteArray} {own : String} {d : Nat} {X : St} {pc : Nat} {lv : List (Nat × Value)} {rest : List Value} (C : XC K (mw G) nL cc own d (tyG G)) {index : Nat} (hlink : Cond.fieldLink own index "RankBoardModel" "playMany" "I" ∈ tA) (hd : decode cc pc = .ok (.getfield index, 3)) (kk : WX K (mw G) nL X (pc + 3) lv (.int (X 117 0) :: rest)) : WX K (mw G) nL X pc lv (.ref (G.1 0) :: rest) := x_getI C (mf_playMany G) rfl (by decide) inX9 hlink rfl hd kk
theorem mP_playMany {K : Cx} {G : Gx} {nL : Nat} {cc : ByteArray} {own : String} {d : Nat} {X : St} {pc : Nat} {lv : List (Nat × Value)} {rest : List Value} (C : XC K (mw G) nL cc own d (tyG G)) {index : Nat} (hlink : Cond.fieldLink own index "RankBoardModel" "playMany" "I" ∈ tA) {v : Int32} (hd : decode cc pc = .ok (.putfield index, 3)) (kk : WX K (mw G) nL (ux X 117 0 v) (pc + 3) lv rest) : WX K (mw G) nL X pc lv (.int v :: .ref (G.1 0) :: rest) := x_putI C (mf_playMany G) rfl (by decide) inX9 tyX9 tyX9_ok nmX9 hlink rfl rfl rfl rfl hd kk
theorem mG_champion {K : Cx} {G : Gx} {nL : Nat} {cc : ByteArray} {own : String} {d : Nat} {X : St} {pc : Nat} {lv : List (Nat × Value)} {rest : List Value} (C : XC K (mw G) nL cc own d (tyG G)) {index : Nat} (hlink : Cond.fieldLink own index "RankBoardModel" "champion" "I" ∈ tA) (hd : decode cc pc = .ok (.getfield index, 3)) (kk : WX K (mw G) nL X (pc + 3) lv (.int (X 118 0) :: rest)) : WX K (mw G) nL X pc lv (.ref (G.1 0) :: rest) := x_getI C (mf_champion G) rfl (by decide) inX9 hlink rfl hd kk
theorem mP_champion {K : Cx} {G : Gx} {nL : Nat} {cc : ByteArray} {own : String} {d : Nat} {X : St} {pc : Nat} {lv : List (Nat × Value)} {rest : List Value} (C : XC K (mw G) nL cc own d (tyG G)) {index : Nat} (hlink : Cond.fieldLink own index "RankBoardModel" "champion" "I" ∈ tA) {v : Int32} (hd : decode cc pc = .ok (.putfield index, 3)) (kk : WX K (mw G) nL (ux X 118 0 v) (pc + 3) lv rest) : WX K (mw G) nL X pc lv (.int v :: .ref (G.1 0) :: rest) := x_putI C (mf_champion G) rfl (by decide) inX9 tyX9 tyX9_ok nmX9 hlink rfl rfl rfl rfl hd kk
theorem mG_came {K : Cx} {G : Gx} {nL : Nat} {cc : ByteArray} {own : String} {d : Nat} {X : St} {pc : Nat} {lv : List (Nat × Value)} {rest : List Value} (C : XC K (mw G) nL cc own d (tyG G)) {index : Nat} (hlink : Cond.fieldLink own index "RankBoardModel" "came" "[I" ∈ tA) (hd : decode cc pc = .ok (.getfield index, 3)) (kk : WX K (mw G) nL X (pc + 3) lv (.ref (G.1 1) :: rest)) : WX K (mw G) nL X pc lv (.ref (G.1 0) :: rest) := x_getR C (mr_came G) rfl (by decide) inX9 hlink rfl hd kk
theorem mG_kindOf {K : Cx} {G : Gx} {nL : Nat} {cc : ByteArray} {own : String} {d : Nat} {X : St} {pc : Nat} {lv : List (Nat × Value)} {rest : List Value} (C : XC K (mw G) nL cc own d (tyG G)) {index : Nat} (hlink : Cond.fieldLink own index "RankBoardModel" "kindOf" "[I" ∈ tA) (hd : decode cc pc = .ok (.getfield index, 3)) (kk : WX K (mw G) nL X (pc + 3) lv (.ref (G.1 2) :: rest)) : WX K (mw G) nL X pc lv (.ref (G.1 0) :: rest) := x_getR C (mr_kindOf G) rfl (by decide) inX9 hlink rfl hd kk
theorem mG_stableOf {K : Cx} {G : Gx} {nL : Nat} {cc : ByteArray} {own : String} {d : Nat} {X : St} {pc : Nat} {lv : List (Nat × Value)} {rest : List Value} (C : XC K (mw G) nL cc own d (tyG G)) {index : Nat} (hlink : Cond.fieldLink own index "RankBoardModel" "stableOf" "[I" ∈ tA) (hd : decode cc pc = .ok (.getfield index, 3)) (kk : WX K (mw G) nL X (pc + 3) lv (.ref (G.1 3) :: rest)) : WX K (mw G) nL X pc lv (.ref (G.1 0) :: rest) := x_getR C (mr_stableOf G) rfl (by decide) inX9 hlink rfl hd kk
theorem mG_kinOf {K : Cx} {G : Gx} {nL : Nat} {cc : ByteArray} {own : String} {d : Nat} {X : St} {pc : Nat} {lv : List (Nat × Value)} {rest : List Value} (C : XC K (mw G) nL cc own d (tyG G)) {index : Nat} (hlink : Cond.fieldLink own index "RankBoardModel" "kinOf" "[I" ∈ tA) (hd : decode cc pc = .ok (.getfield index, 3)) (kk : WX K (mw G) nL X (pc + 3) lv (.ref (G.1 4) :: rest)) : WX K (mw G) nL X pc lv (.ref (G.1 0) :: rest) := x_getR C (mr_kinOf G) rfl (by decide) inX9 hlink rfl hd kk
theorem mG_hasLeft {K : Cx} {G : Gx} {nL : Nat} {cc : ByteArray} {own : String} {d : Nat} {X : St} {pc : Nat} {lv : List (Nat × Value)} {rest : List Value} (C : XC K (mw G) nL cc own d (tyG G)) {index : Nat} (hlink : Cond.fieldLink own index "RankBoardModel" "hasLeft" "[Z" ∈ tA) (hd : decode cc pc = .ok (.getfield index, 3)) (kk : WX K (mw G) nL X (pc + 3) lv (.ref (G.1 5) :: rest)) : WX K (mw G) nL X pc lv (.ref (G.1 0) :: rest) := x_getR C (mr_hasLeft G) rfl (by decide) inX9 hlink rfl hd kk
theorem mG_isAbsent {K : Cx} {G : Gx} {nL : Nat} {cc : ByteArray} {own : String} {d : Nat} {X : St} {pc : Nat} {lv : List (Nat × Value)} {rest : List Value} (C : XC K (mw G) nL cc own d (tyG G)) {index : Nat} (hlink : Cond.fieldLink own index "RankBoardModel" "isAbsent" "[Z" ∈ tA) (hd : decode cc pc = .ok (.getfield index, 3)) (kk : WX K (mw G) nL X (pc + 3) lv (.ref (G.1 6) :: rest)) : WX K (mw G) nL X pc lv (.ref (G.1 0) :: rest) := x_getR C (mr_isAbsent G) rfl (by decide) inX9 hlink rfl hd kk
theorem mG_winsOf {K : Cx} {G : Gx} {nL : Nat} {cc : ByteArray} {own : String} {d : Nat} {X : St} {pc : Nat} {lv : List (Nat × Value)} {rest : List Value} (C : XC K (mw G) nL cc own d (tyG G)) {index : Nat} (hlink : Cond.fieldLink own index "RankBoardModel" "winsOf" "[I" ∈ tA) (hd : decode cc pc = .ok (.getfield index, 3)) (kk : WX K (mw G) nL X (pc + 3) lv (.ref (G.1 7) :: rest)) : WX K (mw G) nL X pc lv (.ref (G.1 0) :: rest) := x_getR C (mr_winsOf G) rfl (by decide) inX9 hlink rfl hd kk
theorem mG_lossesOf {K : Cx} {G : Gx} {nL : Nat} {cc : ByteArray} {own : String} {d : Nat} {X : St} {pc : Nat} {lv : List (Nat × Value)} {rest : List Value} (C : XC K (mw G) nL cc own d (tyG G)) {index : Nat} (hlink : Cond.fieldLink own index "RankBoardModel" "lossesOf" "[I" ∈ tA) (hd : decode cc pc = .ok (.getfield index, 3)) (kk : WX K (mw G) nL X (pc + 3) lv (.ref (G.1 8) :: rest)) : WX K (mw G) nL X pc lv (.ref (G.1 0) :: rest) := x_getR C (mr_lossesOf G) rfl (by decide) inX9 hlink rfl hd kk
theorem mG_titles {K : Cx} {G : Gx} {nL : Nat} {cc : ByteArray} {own : String} {d : Nat} {X : St} {pc : Nat} {lv : List (Nat × Value)} {rest : List Value} (C : XC K (mw G) nL cc own d (tyG G)) {index : Nat} (hlink : Cond.fieldLink own index "RankBoardModel" "titles" "[I" ∈ tA) (hd : decode cc pc = .ok (.getfield index, 3)) (kk : WX K (mw G) nL X (pc + 3) lv (.ref (G.1 9) :: rest)) : WX K (mw G) nL X pc lv (.ref (G.1 0) :: rest) := x_getR C (mr_titles G) rfl (by decide) inX9 hlink rfl hd kk
theorem mG_marks {K : Cx} {G : Gx} {nL : Nat} {cc : ByteArray} {own : String} {d : Nat} {X : St} {pc : Nat} {lv : List (Nat × Value)} {rest : List Value} (C : XC K (mw G) nL cc own d (tyG G)) {index : Nat} (hlink : Cond.fieldLink own index "RankBoardModel" "marks" "[I" ∈ tA) (hd : decode cc pc = .ok (.getfield index, 3)) (kk : WX K (mw G) nL X (pc + 3) lv (.ref (G.1 10) :: rest)) : WX K (mw G) nL X pc lv (.ref (G.1 0) :: rest) := x_getR C (mr_marks G) rfl (by decide) inX9 hlink rfl hd kk
theorem mG_rungs {K : Cx} {G : Gx} {nL : Nat} {cc : ByteArray} {own : String} {d : Nat} {X : St} {pc : Nat} {lv : List (Nat × Value)} {rest : List Value} (C : XC K (mw G) nL cc own d (tyG G)) {index : Nat} (hlink : Cond.fieldLink own index "RankBoardModel" "rungs" "[I" ∈ tA) (hd : decode cc pc = .ok (.getfield index, 3)) (kk : WX K (mw G) nL X (pc + 3) lv (.ref (G.1 11) :: rest)) : WX K (mw G) nL X pc lv (.ref (G.1 0) :: rest) := x_getR C (mr_rungs G) rfl (by decide) inX9 hlink rfl hd kk
theorem mG_sheetSize {K : Cx} {G : Gx} {nL : Nat} {cc : ByteArray} {own : String} {d : Nat} {X : St} {pc : Nat} {lv : List (Nat × Value)} {rest : List Value} (C : XC K (mw G) nL cc own d (tyG G)) {index : Nat} (hlink : Cond.fieldLink own index "RankBoardModel" "sheetSize" "[I" ∈ tA) (hd : decode cc pc = .ok (.getfield index, 3)) (kk : WX K (mw G) nL X (pc + 3) lv (.ref (G.1 12) :: rest)) : WX K (mw G) nL X pc lv (.ref (G.1 0) :: rest) := x_getR C (mr_sheetSize G) rfl (by decide) inX9 hlink rfl hd kk
theorem mG_sheets {K : Cx} {G : Gx} {nL : Nat} {cc : ByteArray} {own : String} {d : Nat} {X : St} {pc : Nat} {lv : List (Nat × Value)} {rest : List Value} (C : XC K (mw G) nL cc own d (tyG G)) {index : Nat} (hlink : Cond.fieldLink own index "RankBoardModel" "sheets" "[B" ∈ tA) (hd : decode cc pc = .ok (.getfield index, 3)) (kk : WX K (mw G) nL X (pc + 3) lv (.ref (G.1 13) :: rest)) : WX K (mw G) nL X pc lv (.ref (G.1 0) :: rest) := x_getR C (mr_sheets G) rfl (by decide) inX9 hlink rfl hd kk
theorem mG_copied {K : Cx} {G : Gx} {nL : Nat} {cc : ByteArray} {own : String} {d : Nat} {X : St} {pc : Nat} {lv : List (Nat × Value)} {rest : List Value} (C : XC K (mw G) nL cc own d (tyG G)) {index : Nat} (hlink : Cond.fieldLink own index "RankBoardModel" "copied" "[B" ∈ tA) (hd : decode cc pc = .ok (.getfield index, 3)) (kk : WX K (mw G) nL X (pc + 3) lv (.ref (G.1 14) :: rest)) : WX K (mw G) nL X pc lv (.ref (G.1 0) :: rest) := x_getR C (mr_copied G) rfl (by decide) inX9 hlink rfl hd kk
theorem mG_boutDay {K : Cx} {G : Gx} {nL : Nat} {cc : ByteArray} {own : String} {d : Nat} {X : St} {pc : Nat} {lv : List (Nat × Value)} {rest : List Value} (C : XC K (mw G) nL cc own d (tyG G)) {index : Nat} (hlink : Cond.fieldLink own index "RankBoardModel" "boutDay" "[I" ∈ tA) (hd : decode cc pc = .ok (.getfield index, 3)) (kk : WX K (mw G) nL X (pc + 3) lv (.ref (G.1 15) :: rest)) : WX K (mw G) nL X pc lv (.ref (G.1 0) :: rest) := x_getR C (mr_boutDay G) rfl (by decide) inX9 hlink rfl hd kk
theorem mG_boutUpper {K : Cx} {G : Gx} {nL : Nat} {cc : ByteArray} {own : String} {d : Nat} {X : St} {pc : Nat} {lv : List (Nat × Value)} {rest : List Value} (C : XC K (mw G) nL cc own d (tyG G)) {index : Nat} (hlink : Cond.fieldLink own index "RankBoardModel" "boutUpper" "[I" ∈ tA) (hd : decode cc pc = .ok (.getfield index, 3)) (kk : WX K (mw G) nL X (pc + 3) lv (.ref (G.1 16) :: rest)) : WX K (mw G) nL X pc lv (.ref (G.1 0) :: rest) := x_getR C (mr_boutUpper G) rfl (by decide) inX9 hlink rfl hd kk
theorem mG_boutLower {K : Cx} {G : Gx} {nL : Nat} {cc : ByteArray} {own : String} {d : Nat} {X : St} {pc : Nat} {lv : List (Nat × Value)} {rest : List Value} (C : XC K (mw G) nL cc own d (tyG G)) {index : Nat} (hlink : Cond.fieldLink own index "RankBoardModel" "boutLower" "[I" ∈ tA) (hd : decode cc pc = .ok (.getfield index, 3)) (kk : WX K (mw G) nL X (pc + 3) lv (.ref (G.1 17) :: rest)) : WX K (mw G) nL X pc lv (.ref (G.1 0) :: rest) := x_getR C (mr_boutLower G) rfl (by decide) inX9 hlink rfl hd kk
theorem mG_boutWon {K : Cx} {G : Gx} {nL : Nat} {cc : ByteArray} {own : String} {d : Nat} {X : St} {pc : Nat} {lv : List (Nat × Value)} {rest : List Value} (C : XC K (mw G) nL cc own d (tyG G)) {index : Nat} (hlink : Cond.fieldLink own index "RankBoardModel" "boutWon" "[I" ∈ tA) (hd : decode cc pc = .ok (.getfield index, 3)) (kk : WX K (mw G) nL X (pc + 3) lv (.ref (G.1 18) :: rest)) : WX K (mw G) nL X pc lv (.ref (G.1 0) :: rest) := x_getR C (mr_boutWon G) rfl (by decide) inX9 hlink rfl hd kk
theorem mG_present {K : Cx} {G : Gx} {nL : Nat} {cc : ByteArray} {own : String} {d : Nat} {X : St} {pc : Nat} {lv : List (Nat × Value)} {rest : List Value} (C : XC K (mw G) nL cc own d (tyG G)) {index : Nat} (hlink : Cond.fieldLink own index "RankBoardModel" "present" "[I" ∈ tA) (hd : decode cc pc = .ok (.getfield index, 3)) (kk : WX K (mw G) nL X (pc + 3) lv (.ref (G.1 19) :: rest)) : WX K (mw G) nL X pc lv (.ref (G.1 0) :: rest) := x_getR C (mr_present G) rfl (by decide) inX9 hlink rfl hd kk
theorem mG_pairCost {K : Cx} {G : Gx} {nL : Nat} {cc : ByteArray} {own : String} {d : Nat} {X : St} {pc : Nat} {lv : List (Nat × Value)} {rest : List Value} (C : XC K (mw G) nL cc own d (tyG G)) {index : Nat} (hlink : Cond.fieldLink own index "RankBoardModel" "pairCost" "[I" ∈ tA) (hd : decode cc pc = .ok (.getfield index, 3)) (kk : WX K (mw G) nL X (pc + 3) lv (.ref (G.1 20) :: rest)) : WX K (mw G) nL X pc lv (.ref (G.1 0) :: rest) := x_getR C (mr_pairCost G) rfl (by decide) inX9 hlink rfl hd kk
theorem mG_leastOf {K : Cx} {G : Gx} {nL : Nat} {cc : ByteArray} {own : String} {d : Nat} {X : St} {pc : Nat} {lv : List (Nat × Value)} {rest : List Value} (C : XC K (mw G) nL cc own d (tyG G)) {index : Nat} (hlink : Cond.fieldLink own index "RankBoardModel" "leastOf" "[I" ∈ tA) (hd : decode cc pc = .ok (.getfield index, 3)) (kk : WX K (mw G) nL X (pc + 3) lv (.ref (G.1 21) :: rest)) : WX K (mw G) nL X pc lv (.ref (G.1 0) :: rest) := x_getR C (mr_leastOf G) rfl (by decide) inX9 hlink rfl hd kk
theorem mG_lineLow {K : Cx} {G : Gx} {nL : Nat} {cc : ByteArray} {own : String} {d : Nat} {X : St} {pc : Nat} {lv : List (Nat × Value)} {rest : List Value} (C : XC K (mw G) nL cc own d (tyG G)) {index : Nat} (hlink : Cond.fieldLink own index "RankBoardModel" "lineLow" "[I" ∈ tA) (hd : decode cc pc = .ok (.getfield index, 3)) (kk : WX K (mw G) nL X (pc + 3) lv (.ref (G.1 22) :: rest)) : WX K (mw G) nL X pc lv (.ref (G.1 0) :: rest) := x_getR C (mr_lineLow G) rfl (by decide) inX9 hlink rfl hd kk
theorem mG_lineHigh {K : Cx} {G : Gx} {nL : Nat} {cc : ByteArray} {own : String} {d : Nat} {X : St} {pc : Nat} {lv : List (Nat × Value)} {rest : List Value} (C : XC K (mw G) nL cc own d (tyG G)) {index : Nat} (hlink : Cond.fieldLink own index "RankBoardModel" "lineHigh" "[I" ∈ tA) (hd : decode cc pc = .ok (.getfield index, 3)) (kk : WX K (mw G) nL X (pc + 3) lv (.ref (G.1 23) :: rest)) : WX K (mw G) nL X pc lv (.ref (G.1 0) :: rest) := x_getR C (mr_lineHigh G) rfl (by decide) inX9 hlink rfl hd kk
theorem mG_lineUp {K : Cx} {G : Gx} {nL : Nat} {cc : ByteArray} {own : String} {d : Nat} {X : St} {pc : Nat} {lv : List (Nat × Value)} {rest : List Value} (C : XC K (mw G) nL cc own d (tyG G)) {index : Nat} (hlink : Cond.fieldLink own index "RankBoardModel" "lineUp" "[I" ∈ tA) (hd : decode cc pc = .ok (.getfield index, 3)) (kk : WX K (mw G) nL X (pc + 3) lv (.ref (G.1 24) :: rest)) : WX K (mw G) nL X pc lv (.ref (G.1 0) :: rest) := x_getR C (mr_lineUp G) rfl (by decide) inX9 hlink rfl hd kk
theorem mG_whyOf {K : Cx} {G : Gx} {nL : Nat} {cc : ByteArray} {own : String} {d : Nat} {X : St} {pc : Nat} {lv : List (Nat × Value)} {rest : List Value} (C : XC K (mw G) nL cc own d (tyG G)) {index : Nat} (hlink : Cond.fieldLink own index "RankBoardModel" "whyOf" "[I" ∈ tA) (hd : decode cc pc = .ok (.getfield index, 3)) (kk : WX K (mw G) nL X (pc + 3) lv (.ref (G.1 25) :: rest)) : WX K (mw G) nL X pc lv (.ref (G.1 0) :: rest) := x_getR C (mr_whyOf G) rfl (by decide) inX9 hlink rfl hd kk
theorem mG_oldRung {K : Cx} {G : Gx} {nL : Nat} {cc : ByteArray} {own : String} {d : Nat} {X : St} {pc : Nat} {lv : List (Nat × Value)} {rest : List Value} (C : XC K (mw G) nL cc own d (tyG G)) {index : Nat} (hlink : Cond.fieldLink own index "RankBoardModel" "oldRung" "[I" ∈ tA) (hd : decode cc pc = .ok (.getfield index, 3)) (kk : WX K (mw G) nL X (pc + 3) lv (.ref (G.1 26) :: rest)) : WX K (mw G) nL X pc lv (.ref (G.1 0) :: rest) := x_getR C (mr_oldRung G) rfl (by decide) inX9 hlink rfl hd kk
theorem mG_writtenRung {K : Cx} {G : Gx} {nL : Nat} {cc : ByteArray} {own : String} {d : Nat} {X : St} {pc : Nat} {lv : List (Nat × Value)} {rest : List Value} (C : XC K (mw G) nL cc own d (tyG G)) {index : Nat} (hlink : Cond.fieldLink own index "RankBoardModel" "writtenRung" "[I" ∈ tA) (hd : decode cc pc = .ok (.getfield index, 3)) (kk : WX K (mw G) nL X (pc + 3) lv (.ref (G.1 27) :: rest)) : WX K (mw G) nL X pc lv (.ref (G.1 0) :: rest) := x_getR C (mr_writtenRung G) rfl (by decide) inX9 hlink rfl hd kk
theorem mG_besideRung {K : Cx} {G : Gx} {nL : Nat} {cc : ByteArray} {own : String} {d : Nat} {X : St} {pc : Nat} {lv : List (Nat × Value)} {rest : List Value} (C : XC K (mw G) nL cc own d (tyG G)) {index : Nat} (hlink : Cond.fieldLink own index "RankBoardModel" "besideRung" "[I" ∈ tA) (hd : decode cc pc = .ok (.getfield index, 3)) (kk : WX K (mw G) nL X (pc + 3) lv (.ref (G.1 28) :: rest)) : WX K (mw G) nL X pc lv (.ref (G.1 0) :: rest) := x_getR C (mr_besideRung G) rfl (by decide) inX9 hlink rfl hd kk
theorem mG_aimOf {K : Cx} {G : Gx} {nL : Nat} {cc : ByteArray} {own : String} {d : Nat} {X : St} {pc : Nat} {lv : List (Nat × Value)} {rest : List Value} (C : XC K (mw G) nL cc own d (tyG G)) {index : Nat} (hlink : Cond.fieldLink own index "RankBoardModel" "aimOf" "[I" ∈ tA) (hd : decode cc pc = .ok (.getfield index, 3)) (kk : WX K (mw G) nL X (pc + 3) lv (.ref (G.1 29) :: rest)) : WX K (mw G) nL X pc lv (.ref (G.1 0) :: rest) := x_getR C (mr_aimOf G) rfl (by decide) inX9 hlink rfl hd kk
theorem mG_ordered {K : Cx} {G : Gx} {nL : Nat} {cc : ByteArray} {own : String} {d : Nat} {X : St} {pc : Nat} {lv : List (Nat × Value)} {rest : List Value} (C : XC K (mw G) nL cc own d (tyG G)) {index : Nat} (hlink : Cond.fieldLink own index "RankBoardModel" "ordered" "[I" ∈ tA) (hd : decode cc pc = .ok (.getfield index, 3)) (kk : WX K (mw G) nL X (pc + 3) lv (.ref (G.1 30) :: rest)) : WX K (mw G) nL X pc lv (.ref (G.1 0) :: rest) := x_getR C (mr_ordered G) rfl (by decide) inX9 hlink rfl hd kk
theorem mG_scores {K : Cx} {G : Gx} {nL : Nat} {cc : ByteArray} {own : String} {d : Nat} {X : St} {pc : Nat} {lv : List (Nat × Value)} {rest : List Value} (C : XC K (mw G) nL cc own d (tyG G)) {index : Nat} (hlink : Cond.fieldLink own index "RankBoardModel" "scores" "[I" ∈ tA) (hd : decode cc pc = .ok (.getfield index, 3)) (kk : WX K (mw G) nL X (pc + 3) lv (.ref (G.1 31) :: rest)) : WX K (mw G) nL X pc lv (.ref (G.1 0) :: rest) := x_getR C (mr_scores G) rfl (by decide) inX9 hlink rfl hd kk
theorem mG_boardBefore {K : Cx} {G : Gx} {nL : Nat} {cc : ByteArray} {own : String} {d : Nat} {X : St} {pc : Nat} {lv : List (Nat × Value)} {rest : List Value} (C : XC K (mw G) nL cc own d (tyG G)) {index : Nat} (hlink : Cond.fieldLink own index "RankBoardModel" "boardBefore" "[I" ∈ tA) (hd : decode cc pc = .ok (.getfield index, 3)) (kk : WX K (mw G) nL X (pc + 3) lv (.ref (G.1 32) :: rest)) : WX K (mw G) nL X pc lv (.ref (G.1 0) :: rest) := x_getR C (mr_boardBefore G) rfl (by decide) inX9 hlink rfl hd kk
theorem mG_play {K : Cx} {G : Gx} {nL : Nat} {cc : ByteArray} {own : String} {d : Nat} {X : St} {pc : Nat} {lv : List (Nat × Value)} {rest : List Value} (C : XC K (mw G) nL cc own d (tyG G)) {index : Nat} (hlink : Cond.fieldLink own index "RankBoardModel" "play" "[I" ∈ tA) (hd : decode cc pc = .ok (.getfield index, 3)) (kk : WX K (mw G) nL X (pc + 3) lv (.ref (G.1 33) :: rest)) : WX K (mw G) nL X pc lv (.ref (G.1 0) :: rest) := x_getR C (mr_play G) rfl (by decide) inX9 hlink rfl hd kk
theorem mL_came {K : Cx} {G : Gx} {nL : Nat} {cc : ByteArray} {own : String} {d : Nat} {X : St} {pc : Nat} {lv : List (Nat × Value)} {rest : List Value} (C : XC K (mw G) nL cc own d (tyG G)) {i : Int32} (hd : decode cc pc = .ok (.iaload, 1)) (hin : vp_in i 6) (kk : WX K (mw G) nL X (pc + 1) lv (.int (X 1 (ix i)) :: rest)) : WX K (mw G) nL X pc lv (.int i :: .ref (G.1 1) :: rest) := x_iald C (ma_came G) 0 rfl hd hin kk
theorem mS_came {K : Cx} {G : Gx} {nL : Nat} {cc : ByteArray} {own : String} {d : Nat} {X : St} {pc : Nat} {lv : List (Nat × Value)} {rest : List Value} (C : XC K (mw G) nL cc own d (tyG G)) {i v : Int32} (hd : decode cc pc = .ok (.iastore, 1)) (hin : vp_in i 6) (kk : WX K (mw G) nL (ux X 1 (ix i) v) (pc + 1) lv rest) : WX K (mw G) nL X pc lv (.int v :: .int i :: .ref (G.1 1) :: rest) := x_iast C (ma_came G) 0 rfl hd hin kk
theorem mL_kindOf {K : Cx} {G : Gx} {nL : Nat} {cc : ByteArray} {own : String} {d : Nat} {X : St} {pc : Nat} {lv : List (Nat × Value)} {rest : List Value} (C : XC K (mw G) nL cc own d (tyG G)) {i : Int32} (hd : decode cc pc = .ok (.iaload, 1)) (hin : vp_in i 16) (kk : WX K (mw G) nL X (pc + 1) lv (.int (X 2 (ix i)) :: rest)) : WX K (mw G) nL X pc lv (.int i :: .ref (G.1 2) :: rest) := x_iald C (ma_kindOf G) 0 rfl hd hin kk
theorem mS_kindOf {K : Cx} {G : Gx} {nL : Nat} {cc : ByteArray} {own : String} {d : Nat} {X : St} {pc : Nat} {lv : List (Nat × Value)} {rest : List Value} (C : XC K (mw G) nL cc own d (tyG G)) {i v : Int32} (hd : decode cc pc = .ok (.iastore, 1)) (hin : vp_in i 16) (kk : WX K (mw G) nL (ux X 2 (ix i) v) (pc + 1) lv rest) : WX K (mw G) nL X pc lv (.int v :: .int i :: .ref (G.1 2) :: rest) := x_iast C (ma_kindOf G) 0 rfl hd hin kk
theorem mL_stableOf {K : Cx} {G : Gx} {nL : Nat} {cc : ByteArray} {own : String} {d : Nat} {X : St} {pc : Nat} {lv : List (Nat × Value)} {rest : List Value} (C : XC K (mw G) nL cc own d (tyG G)) {i : Int32} (hd : decode cc pc = .ok (.iaload, 1)) (hin : vp_in i 16) (kk : WX K (mw G) nL X (pc + 1) lv (.int (X 3 (ix i)) :: rest)) : WX K (mw G) nL X pc lv (.int i :: .ref (G.1 3) :: rest) := x_iald C (ma_stableOf G) 0 rfl hd hin kk
theorem mS_stableOf {K : Cx} {G : Gx} {nL : Nat} {cc : ByteArray} {own : String} {d : Nat} {X : St} {pc : Nat} {lv : List (Nat × Value)} {rest : List Value} (C : XC K (mw G) nL cc own d (tyG G)) {i v : Int32} (hd : decode cc pc = .ok (.iastore, 1)) (hin : vp_in i 16) (kk : WX K (mw G) nL (ux X 3 (ix i) v) (pc + 1) lv rest) : WX K (mw G) nL X pc lv (.int v :: .int i :: .ref (G.1 3) :: rest) := x_iast C (ma_stableOf G) 0 rfl hd hin kk
theorem mL_kinOf {K : Cx} {G : Gx} {nL : Nat} {cc : ByteArray} {own : String} {d : Nat} {X : St} {pc : Nat} {lv : List (Nat × Value)} {rest : List Value} (C : XC K (mw G) nL cc own d (tyG G)) {i : Int32} (hd : decode cc pc = .ok (.iaload, 1)) (hin : vp_in i 16) (kk : WX K (mw G) nL X (pc + 1) lv (.int (X 4 (ix i)) :: rest)) : WX K (mw G) nL X pc lv (.int i :: .ref (G.1 4) :: rest) := x_iald C (ma_kinOf G) 0 rfl hd hin kk
theorem mS_kinOf {K : Cx} {G : Gx} {nL : Nat} {cc : ByteArray} {own : String} {d : Nat} {X : St} {pc : Nat} {lv : List (Nat × Value)} {rest : List Value} (C : XC K (mw G) nL cc own d (tyG G)) {i v : Int32} (hd : decode cc pc = .ok (.iastore, 1)) (hin : vp_in i 16) (kk : WX K (mw G) nL (ux X 4 (ix i) v) (pc + 1) lv rest) : WX K (mw G) nL X pc lv (.int v :: .int i :: .ref (G.1 4) :: rest) := x_iast C (ma_kinOf G) 0 rfl hd hin kk
theorem mL_hasLeft {K : Cx} {G : Gx} {nL : Nat} {cc : ByteArray} {own : String} {d : Nat} {X : St} {pc : Nat} {lv : List (Nat × Value)} {rest : List Value} (C : XC K (mw G) nL cc own d (tyG G)) {i : Int32} (hd : decode cc pc = .ok (.baload, 1)) (hin : vp_in i 16) (kk : WX K (mw G) nL X (pc + 1) lv (.int (X 5 (ix i)) :: rest)) : WX K (mw G) nL X pc lv (.int i :: .ref (G.1 5) :: rest) := x_zald C (ma_hasLeft G) 1 rfl hd hin kk
theorem mS_hasLeft {K : Cx} {G : Gx} {nL : Nat} {cc : ByteArray} {own : String} {d : Nat} {X : St} {pc : Nat} {lv : List (Nat × Value)} {rest : List Value} (C : XC K (mw G) nL cc own d (tyG G)) {i v : Int32} (hd : decode cc pc = .ok (.bastore, 1)) (hin : vp_in i 16) (kk : WX K (mw G) nL (ux X 5 (ix i) (vp_nar .boolean v)) (pc + 1) lv rest) : WX K (mw G) nL X pc lv (.int v :: .int i :: .ref (G.1 5) :: rest) := x_zast C (ma_hasLeft G) 1 rfl hd hin kk
theorem mL_isAbsent {K : Cx} {G : Gx} {nL : Nat} {cc : ByteArray} {own : String} {d : Nat} {X : St} {pc : Nat} {lv : List (Nat × Value)} {rest : List Value} (C : XC K (mw G) nL cc own d (tyG G)) {i : Int32} (hd : decode cc pc = .ok (.baload, 1)) (hin : vp_in i 16) (kk : WX K (mw G) nL X (pc + 1) lv (.int (X 6 (ix i)) :: rest)) : WX K (mw G) nL X pc lv (.int i :: .ref (G.1 6) :: rest) := x_zald C (ma_isAbsent G) 1 rfl hd hin kk
theorem mS_isAbsent {K : Cx} {G : Gx} {nL : Nat} {cc : ByteArray} {own : String} {d : Nat} {X : St} {pc : Nat} {lv : List (Nat × Value)} {rest : List Value} (C : XC K (mw G) nL cc own d (tyG G)) {i v : Int32} (hd : decode cc pc = .ok (.bastore, 1)) (hin : vp_in i 16) (kk : WX K (mw G) nL (ux X 6 (ix i) (vp_nar .boolean v)) (pc + 1) lv rest) : WX K (mw G) nL X pc lv (.int v :: .int i :: .ref (G.1 6) :: rest) := x_zast C (ma_isAbsent G) 1 rfl hd hin kk
theorem mL_winsOf {K : Cx} {G : Gx} {nL : Nat} {cc : ByteArray} {own : String} {d : Nat} {X : St} {pc : Nat} {lv : List (Nat × Value)} {rest : List Value} (C : XC K (mw G) nL cc own d (tyG G)) {i : Int32} (hd : decode cc pc = .ok (.iaload, 1)) (hin : vp_in i 16) (kk : WX K (mw G) nL X (pc + 1) lv (.int (X 7 (ix i)) :: rest)) : WX K (mw G) nL X pc lv (.int i :: .ref (G.1 7) :: rest) := x_iald C (ma_winsOf G) 0 rfl hd hin kk
theorem mS_winsOf {K : Cx} {G : Gx} {nL : Nat} {cc : ByteArray} {own : String} {d : Nat} {X : St} {pc : Nat} {lv : List (Nat × Value)} {rest : List Value} (C : XC K (mw G) nL cc own d (tyG G)) {i v : Int32} (hd : decode cc pc = .ok (.iastore, 1)) (hin : vp_in i 16) (kk : WX K (mw G) nL (ux X 7 (ix i) v) (pc + 1) lv rest) : WX K (mw G) nL X pc lv (.int v :: .int i :: .ref (G.1 7) :: rest) := x_iast C (ma_winsOf G) 0 rfl hd hin kk
theorem mL_lossesOf {K : Cx} {G : Gx} {nL : Nat} {cc : ByteArray} {own : String} {d : Nat} {X : St} {pc : Nat} {lv : List (Nat × Value)} {rest : List Value} (C : XC K (mw G) nL cc own d (tyG G)) {i : Int32} (hd : decode cc pc = .ok (.iaload, 1)) (hin : vp_in i 16) (kk : WX K (mw G) nL X (pc + 1) lv (.int (X 8 (ix i)) :: rest)) : WX K (mw G) nL X pc lv (.int i :: .ref (G.1 8) :: rest) := x_iald C (ma_lossesOf G) 0 rfl hd hin kk
theorem mS_lossesOf {K : Cx} {G : Gx} {nL : Nat} {cc : ByteArray} {own : String} {d : Nat} {X : St} {pc : Nat} {lv : List (Nat × Value)} {rest : List Value} (C : XC K (mw G) nL cc own d (tyG G)) {i v : Int32} (hd : decode cc pc = .ok (.iastore, 1)) (hin : vp_in i 16) (kk : WX K (mw G) nL (ux X 8 (ix i) v) (pc + 1) lv rest) : WX K (mw G) nL X pc lv (.int v :: .int i :: .ref (G.1 8) :: rest) := x_iast C (ma_lossesOf G) 0 rfl hd hin kk
theorem mL_titles {K : Cx} {G : Gx} {nL : Nat} {cc : ByteArray} {own : String} {d : Nat} {X : St} {pc : Nat} {lv : List (Nat × Value)} {rest : List Value} (C : XC K (mw G) nL cc own d (tyG G)) {i : Int32} (hd : decode cc pc = .ok (.iaload, 1)) (hin : vp_in i 16) (kk : WX K (mw G) nL X (pc + 1) lv (.int (X 9 (ix i)) :: rest)) : WX K (mw G) nL X pc lv (.int i :: .ref (G.1 9) :: rest) := x_iald C (ma_titles G) 0 rfl hd hin kk
theorem mS_titles {K : Cx} {G : Gx} {nL : Nat} {cc : ByteArray} {own : String} {d : Nat} {X : St} {pc : Nat} {lv : List (Nat × Value)} {rest : List Value} (C : XC K (mw G) nL cc own d (tyG G)) {i v : Int32} (hd : decode cc pc = .ok (.iastore, 1)) (hin : vp_in i 16) (kk : WX K (mw G) nL (ux X 9 (ix i) v) (pc + 1) lv rest) : WX K (mw G) nL X pc lv (.int v :: .int i :: .ref (G.1 9) :: rest) := x_iast C (ma_titles G) 0 rfl hd hin kk
theorem mL_marks {K : Cx} {G : Gx} {nL : Nat} {cc : ByteArray} {own : String} {d : Nat} {X : St} {pc : Nat} {lv : List (Nat × Value)} {rest : List Value} (C : XC K (mw G) nL cc own d (tyG G)) {i : Int32} (hd : decode cc pc = .ok (.iaload, 1)) (hin : vp_in i 16) (kk : WX K (mw G) nL X (pc + 1) lv (.int (X 10 (ix i)) :: rest)) : WX K (mw G) nL X pc lv (.int i :: .ref (G.1 10) :: rest) := x_iald C (ma_marks G) 0 rfl hd hin kk
theorem mS_marks {K : Cx} {G : Gx} {nL : Nat} {cc : ByteArray} {own : String} {d : Nat} {X : St} {pc : Nat} {lv : List (Nat × Value)} {rest : List Value} (C : XC K (mw G) nL cc own d (tyG G)) {i v : Int32} (hd : decode cc pc = .ok (.iastore, 1)) (hin : vp_in i 16) (kk : WX K (mw G) nL (ux X 10 (ix i) v) (pc + 1) lv rest) : WX K (mw G) nL X pc lv (.int v :: .int i :: .ref (G.1 10) :: rest) := x_iast C (ma_marks G) 0 rfl hd hin kk
theorem mL_rungs {K : Cx} {G : Gx} {nL : Nat} {cc : ByteArray} {own : String} {d : Nat} {X : St} {pc : Nat} {lv : List (Nat × Value)} {rest : List Value} (C : XC K (mw G) nL cc own d (tyG G)) {i : Int32} (hd : decode cc pc = .ok (.iaload, 1)) (hin : vp_in i 16) (kk : WX K (mw G) nL X (pc + 1) lv (.int (X 11 (ix i)) :: rest)) : WX K (mw G) nL X pc lv (.int i :: .ref (G.1 11) :: rest) := x_iald C (ma_rungs G) 0 rfl hd hin kk
theorem mS_rungs {K : Cx} {G : Gx} {nL : Nat} {cc : ByteArray} {own : String} {d : Nat} {X : St} {pc : Nat} {lv : List (Nat × Value)} {rest : List Value} (C : XC K (mw G) nL cc own d (tyG G)) {i v : Int32} (hd : decode cc pc = .ok (.iastore, 1)) (hin : vp_in i 16) (kk : WX K (mw G) nL (ux X 11 (ix i) v) (pc + 1) lv rest) : WX K (mw G) nL X pc lv (.int v :: .int i :: .ref (G.1 11) :: rest) := x_iast C (ma_rungs G) 0 rfl hd hin kk
theorem mL_sheetSize {K : Cx} {G : Gx} {nL : Nat} {cc : ByteArray} {own : String} {d : Nat} {X : St} {pc : Nat} {lv : List (Nat × Value)} {rest : List Value} (C : XC K (mw G) nL cc own d (tyG G)) {i : Int32} (hd : decode cc pc = .ok (.iaload, 1)) (hin : vp_in i 4) (kk : WX K (mw G) nL X (pc + 1) lv (.int (X 12 (ix i)) :: rest)) : WX K (mw G) nL X pc lv (.int i :: .ref (G.1 12) :: rest) := x_iald C (ma_sheetSize G) 0 rfl hd hin kk
theorem mS_sheetSize {K : Cx} {G : Gx} {nL : Nat} {cc : ByteArray} {own : String} {d : Nat} {X : St} {pc : Nat} {lv : List (Nat × Value)} {rest : List Value} (C : XC K (mw G) nL cc own d (tyG G)) {i v : Int32} (hd : decode cc pc = .ok (.iastore, 1)) (hin : vp_in i 4) (kk : WX K (mw G) nL (ux X 12 (ix i) v) (pc + 1) lv rest) : WX K (mw G) nL X pc lv (.int v :: .int i :: .ref (G.1 12) :: rest) := x_iast C (ma_sheetSize G) 0 rfl hd hin kk
theorem mL_sheets {K : Cx} {G : Gx} {nL : Nat} {cc : ByteArray} {own : String} {d : Nat} {X : St} {pc : Nat} {lv : List (Nat × Value)} {rest : List Value} (C : XC K (mw G) nL cc own d (tyG G)) {i : Int32} (hd : decode cc pc = .ok (.baload, 1)) (hin : vp_in i 64) (kk : WX K (mw G) nL X (pc + 1) lv (.int (X 13 (ix i)) :: rest)) : WX K (mw G) nL X pc lv (.int i :: .ref (G.1 13) :: rest) := x_bald C (ma_sheets G) 2 rfl hd hin kk
theorem mS_sheets {K : Cx} {G : Gx} {nL : Nat} {cc : ByteArray} {own : String} {d : Nat} {X : St} {pc : Nat} {lv : List (Nat × Value)} {rest : List Value} (C : XC K (mw G) nL cc own d (tyG G)) {i v : Int32} (hd : decode cc pc = .ok (.bastore, 1)) (hin : vp_in i 64) (kk : WX K (mw G) nL (ux X 13 (ix i) (vp_nar .byte v)) (pc + 1) lv rest) : WX K (mw G) nL X pc lv (.int v :: .int i :: .ref (G.1 13) :: rest) := x_bast C (ma_sheets G) 2 rfl hd hin kk
theorem mL_copied {K : Cx} {G : Gx} {nL : Nat} {cc : ByteArray} {own : String} {d : Nat} {X : St} {pc : Nat} {lv : List (Nat × Value)} {rest : List Value} (C : XC K (mw G) nL cc own d (tyG G)) {i : Int32} (hd : decode cc pc = .ok (.baload, 1)) (hin : vp_in i 16) (kk : WX K (mw G) nL X (pc + 1) lv (.int (X 14 (ix i)) :: rest)) : WX K (mw G) nL X pc lv (.int i :: .ref (G.1 14) :: rest) := x_bald C (ma_copied G) 2 rfl hd hin kk
theorem mS_copied {K : Cx} {G : Gx} {nL : Nat} {cc : ByteArray} {own : String} {d : Nat} {X : St} {pc : Nat} {lv : List (Nat × Value)} {rest : List Value} (C : XC K (mw G) nL cc own d (tyG G)) {i v : Int32} (hd : decode cc pc = .ok (.bastore, 1)) (hin : vp_in i 16) (kk : WX K (mw G) nL (ux X 14 (ix i) (vp_nar .byte v)) (pc + 1) lv rest) : WX K (mw G) nL X pc lv (.int v :: .int i :: .ref (G.1 14) :: rest) := x_bast C (ma_copied G) 2 rfl hd hin kk
theorem mL_boutDay {K : Cx} {G : Gx} {nL : Nat} {cc : ByteArray} {own : String} {d : Nat} {X : St} {pc : Nat} {lv : List (Nat × Value)} {rest : List Value} (C : XC K (mw G) nL cc own d (tyG G)) {i : Int32} (hd : decode cc pc = .ok (.iaload, 1)) (hin : vp_in i 120) (kk : WX K (mw G) nL X (pc + 1) lv (.int (X 15 (ix i)) :: rest)) : WX K (mw G) nL X pc lv (.int i :: .ref (G.1 15) :: rest) := x_iald C (ma_boutDay G) 0 rfl hd hin kk
theorem mS_boutDay {K : Cx} {G : Gx} {nL : Nat} {cc : ByteArray} {own : String} {d : Nat} {X : St} {pc : Nat} {lv : List (Nat × Value)} {rest : List Value} (C : XC K (mw G) nL cc own d (tyG G)) {i v : Int32} (hd : decode cc pc = .ok (.iastore, 1)) (hin : vp_in i 120) (kk : WX K (mw G) nL (ux X 15 (ix i) v) (pc + 1) lv rest) : WX K (mw G) nL X pc lv (.int v :: .int i :: .ref (G.1 15) :: rest) := x_iast C (ma_boutDay G) 0 rfl hd hin kk
theorem mL_boutUpper {K : Cx} {G : Gx} {nL : Nat} {cc : ByteArray} {own : String} {d : Nat} {X : St} {pc : Nat} {lv : List (Nat × Value)} {rest : List Value} (C : XC K (mw G) nL cc own d (tyG G)) {i : Int32} (hd : decode cc pc = .ok (.iaload, 1)) (hin : vp_in i 120) (kk : WX K (mw G) nL X (pc + 1) lv (.int (X 16 (ix i)) :: rest)) : WX K (mw G) nL X pc lv (.int i :: .ref (G.1 16) :: rest) := x_iald C (ma_boutUpper G) 0 rfl hd hin kk
theorem mS_boutUpper {K : Cx} {G : Gx} {nL : Nat} {cc : ByteArray} {own : String} {d : Nat} {X : St} {pc : Nat} {lv : List (Nat × Value)} {rest : List Value} (C : XC K (mw G) nL cc own d (tyG G)) {i v : Int32} (hd : decode cc pc = .ok (.iastore, 1)) (hin : vp_in i 120) (kk : WX K (mw G) nL (ux X 16 (ix i) v) (pc + 1) lv rest) : WX K (mw G) nL X pc lv (.int v :: .int i :: .ref (G.1 16) :: rest) := x_iast C (ma_boutUpper G) 0 rfl hd hin kk
theorem mL_boutLower {K : Cx} {G : Gx} {nL : Nat} {cc : ByteArray} {own : String} {d : Nat} {X : St} {pc : Nat} {lv : List (Nat × Value)} {rest : List Value} (C : XC K (mw G) nL cc own d (tyG G)) {i : Int32} (hd : decode cc pc = .ok (.iaload, 1)) (hin : vp_in i 120) (kk : WX K (mw G) nL X (pc + 1) lv (.int (X 17 (ix i)) :: rest)) : WX K (mw G) nL X pc lv (.int i :: .ref (G.1 17) :: rest) := x_iald C (ma_boutLower G) 0 rfl hd hin kk
theorem mS_boutLower {K : Cx} {G : Gx} {nL : Nat} {cc : ByteArray} {own : String} {d : Nat} {X : St} {pc : Nat} {lv : List (Nat × Value)} {rest : List Value} (C : XC K (mw G) nL cc own d (tyG G)) {i v : Int32} (hd : decode cc pc = .ok (.iastore, 1)) (hin : vp_in i 120) (kk : WX K (mw G) nL (ux X 17 (ix i) v) (pc + 1) lv rest) : WX K (mw G) nL X pc lv (.int v :: .int i :: .ref (G.1 17) :: rest) := x_iast C (ma_boutLower G) 0 rfl hd hin kk
theorem mL_boutWon {K : Cx} {G : Gx} {nL : Nat} {cc : ByteArray} {own : String} {d : Nat} {X : St} {pc : Nat} {lv : List (Nat × Value)} {rest : List Value} (C : XC K (mw G) nL cc own d (tyG G)) {i : Int32} (hd : decode cc pc = .ok (.iaload, 1)) (hin : vp_in i 120) (kk : WX K (mw G) nL X (pc + 1) lv (.int (X 18 (ix i)) :: rest)) : WX K (mw G) nL X pc lv (.int i :: .ref (G.1 18) :: rest) := x_iald C (ma_boutWon G) 0 rfl hd hin kk
theorem mS_boutWon {K : Cx} {G : Gx} {nL : Nat} {cc : ByteArray} {own : String} {d : Nat} {X : St} {pc : Nat} {lv : List (Nat × Value)} {rest : List Value} (C : XC K (mw G) nL cc own d (tyG G)) {i v : Int32} (hd : decode cc pc = .ok (.iastore, 1)) (hin : vp_in i 120) (kk : WX K (mw G) nL (ux X 18 (ix i) v) (pc + 1) lv rest) : WX K (mw G) nL X pc lv (.int v :: .int i :: .ref (G.1 18) :: rest) := x_iast C (ma_boutWon G) 0 rfl hd hin kk
theorem mL_present {K : Cx} {G : Gx} {nL : Nat} {cc : ByteArray} {own : String} {d : Nat} {X : St} {pc : Nat} {lv : List (Nat × Value)} {rest : List Value} (C : XC K (mw G) nL cc own d (tyG G)) {i : Int32} (hd : decode cc pc = .ok (.iaload, 1)) (hin : vp_in i 16) (kk : WX K (mw G) nL X (pc + 1) lv (.int (X 19 (ix i)) :: rest)) : WX K (mw G) nL X pc lv (.int i :: .ref (G.1 19) :: rest) := x_iald C (ma_present G) 0 rfl hd hin kk
theorem mS_present {K : Cx} {G : Gx} {nL : Nat} {cc : ByteArray} {own : String} {d : Nat} {X : St} {pc : Nat} {lv : List (Nat × Value)} {rest : List Value} (C : XC K (mw G) nL cc own d (tyG G)) {i v : Int32} (hd : decode cc pc = .ok (.iastore, 1)) (hin : vp_in i 16) (kk : WX K (mw G) nL (ux X 19 (ix i) v) (pc + 1) lv rest) : WX K (mw G) nL X pc lv (.int v :: .int i :: .ref (G.1 19) :: rest) := x_iast C (ma_present G) 0 rfl hd hin kk
theorem mL_pairCost {K : Cx} {G : Gx} {nL : Nat} {cc : ByteArray} {own : String} {d : Nat} {X : St} {pc : Nat} {lv : List (Nat × Value)} {rest : List Value} (C : XC K (mw G) nL cc own d (tyG G)) {i : Int32} (hd : decode cc pc = .ok (.iaload, 1)) (hin : vp_in i 256) (kk : WX K (mw G) nL X (pc + 1) lv (.int (X 20 (ix i)) :: rest)) : WX K (mw G) nL X pc lv (.int i :: .ref (G.1 20) :: rest) := x_iald C (ma_pairCost G) 0 rfl hd hin kk
theorem mS_pairCost {K : Cx} {G : Gx} {nL : Nat} {cc : ByteArray} {own : String} {d : Nat} {X : St} {pc : Nat} {lv : List (Nat × Value)} {rest : List Value} (C : XC K (mw G) nL cc own d (tyG G)) {i v : Int32} (hd : decode cc pc = .ok (.iastore, 1)) (hin : vp_in i 256) (kk : WX K (mw G) nL (ux X 20 (ix i) v) (pc + 1) lv rest) : WX K (mw G) nL X pc lv (.int v :: .int i :: .ref (G.1 20) :: rest) := x_iast C (ma_pairCost G) 0 rfl hd hin kk
theorem mL_leastOf {K : Cx} {G : Gx} {nL : Nat} {cc : ByteArray} {own : String} {d : Nat} {X : St} {pc : Nat} {lv : List (Nat × Value)} {rest : List Value} (C : XC K (mw G) nL cc own d (tyG G)) {i : Int32} (hd : decode cc pc = .ok (.iaload, 1)) (hin : vp_in i 65536) (kk : WX K (mw G) nL X (pc + 1) lv (.int (X 21 (ix i)) :: rest)) : WX K (mw G) nL X pc lv (.int i :: .ref (G.1 21) :: rest) := x_iald C (ma_leastOf G) 0 rfl hd hin kk
theorem mS_leastOf {K : Cx} {G : Gx} {nL : Nat} {cc : ByteArray} {own : String} {d : Nat} {X : St} {pc : Nat} {lv : List (Nat × Value)} {rest : List Value} (C : XC K (mw G) nL cc own d (tyG G)) {i v : Int32} (hd : decode cc pc = .ok (.iastore, 1)) (hin : vp_in i 65536) (kk : WX K (mw G) nL (ux X 21 (ix i) v) (pc + 1) lv rest) : WX K (mw G) nL X pc lv (.int v :: .int i :: .ref (G.1 21) :: rest) := x_iast C (ma_leastOf G) 0 rfl hd hin kk
theorem mL_lineLow {K : Cx} {G : Gx} {nL : Nat} {cc : ByteArray} {own : String} {d : Nat} {X : St} {pc : Nat} {lv : List (Nat × Value)} {rest : List Value} (C : XC K (mw G) nL cc own d (tyG G)) {i : Int32} (hd : decode cc pc = .ok (.iaload, 1)) (hin : vp_in i 12) (kk : WX K (mw G) nL X (pc + 1) lv (.int (X 22 (ix i)) :: rest)) : WX K (mw G) nL X pc lv (.int i :: .ref (G.1 22) :: rest) := x_iald C (ma_lineLow G) 0 rfl hd hin kk
theorem mS_lineLow {K : Cx} {G : Gx} {nL : Nat} {cc : ByteArray} {own : String} {d : Nat} {X : St} {pc : Nat} {lv : List (Nat × Value)} {rest : List Value} (C : XC K (mw G) nL cc own d (tyG G)) {i v : Int32} (hd : decode cc pc = .ok (.iastore, 1)) (hin : vp_in i 12) (kk : WX K (mw G) nL (ux X 22 (ix i) v) (pc + 1) lv rest) : WX K (mw G) nL X pc lv (.int v :: .int i :: .ref (G.1 22) :: rest) := x_iast C (ma_lineLow G) 0 rfl hd hin kk
theorem mL_lineHigh {K : Cx} {G : Gx} {nL : Nat} {cc : ByteArray} {own : String} {d : Nat} {X : St} {pc : Nat} {lv : List (Nat × Value)} {rest : List Value} (C : XC K (mw G) nL cc own d (tyG G)) {i : Int32} (hd : decode cc pc = .ok (.iaload, 1)) (hin : vp_in i 12) (kk : WX K (mw G) nL X (pc + 1) lv (.int (X 23 (ix i)) :: rest)) : WX K (mw G) nL X pc lv (.int i :: .ref (G.1 23) :: rest) := x_iald C (ma_lineHigh G) 0 rfl hd hin kk
theorem mS_lineHigh {K : Cx} {G : Gx} {nL : Nat} {cc : ByteArray} {own : String} {d : Nat} {X : St} {pc : Nat} {lv : List (Nat × Value)} {rest : List Value} (C : XC K (mw G) nL cc own d (tyG G)) {i v : Int32} (hd : decode cc pc = .ok (.iastore, 1)) (hin : vp_in i 12) (kk : WX K (mw G) nL (ux X 23 (ix i) v) (pc + 1) lv rest) : WX K (mw G) nL X pc lv (.int v :: .int i :: .ref (G.1 23) :: rest) := x_iast C (ma_lineHigh G) 0 rfl hd hin kk
theorem mL_lineUp {K : Cx} {G : Gx} {nL : Nat} {cc : ByteArray} {own : String} {d : Nat} {X : St} {pc : Nat} {lv : List (Nat × Value)} {rest : List Value} (C : XC K (mw G) nL cc own d (tyG G)) {i : Int32} (hd : decode cc pc = .ok (.iaload, 1)) (hin : vp_in i 12) (kk : WX K (mw G) nL X (pc + 1) lv (.int (X 24 (ix i)) :: rest)) : WX K (mw G) nL X pc lv (.int i :: .ref (G.1 24) :: rest) := x_iald C (ma_lineUp G) 0 rfl hd hin kk
theorem mS_lineUp {K : Cx} {G : Gx} {nL : Nat} {cc : ByteArray} {own : String} {d : Nat} {X : St} {pc : Nat} {lv : List (Nat × Value)} {rest : List Value} (C : XC K (mw G) nL cc own d (tyG G)) {i v : Int32} (hd : decode cc pc = .ok (.iastore, 1)) (hin : vp_in i 12) (kk : WX K (mw G) nL (ux X 24 (ix i) v) (pc + 1) lv rest) : WX K (mw G) nL X pc lv (.int v :: .int i :: .ref (G.1 24) :: rest) := x_iast C (ma_lineUp G) 0 rfl hd hin kk
theorem mL_whyOf {K : Cx} {G : Gx} {nL : Nat} {cc : ByteArray} {own : String} {d : Nat} {X : St} {pc : Nat} {lv : List (Nat × Value)} {rest : List Value} (C : XC K (mw G) nL cc own d (tyG G)) {i : Int32} (hd : decode cc pc = .ok (.iaload, 1)) (hin : vp_in i 16) (kk : WX K (mw G) nL X (pc + 1) lv (.int (X 25 (ix i)) :: rest)) : WX K (mw G) nL X pc lv (.int i :: .ref (G.1 25) :: rest) := x_iald C (ma_whyOf G) 0 rfl hd hin kk
theorem mS_whyOf {K : Cx} {G : Gx} {nL : Nat} {cc : ByteArray} {own : String} {d : Nat} {X : St} {pc : Nat} {lv : List (Nat × Value)} {rest : List Value} (C : XC K (mw G) nL cc own d (tyG G)) {i v : Int32} (hd : decode cc pc = .ok (.iastore, 1)) (hin : vp_in i 16) (kk : WX K (mw G) nL (ux X 25 (ix i) v) (pc + 1) lv rest) : WX K (mw G) nL X pc lv (.int v :: .int i :: .ref (G.1 25) :: rest) := x_iast C (ma_whyOf G) 0 rfl hd hin kk
theorem mL_oldRung {K : Cx} {G : Gx} {nL : Nat} {cc : ByteArray} {own : String} {d : Nat} {X : St} {pc : Nat} {lv : List (Nat × Value)} {rest : List Value} (C : XC K (mw G) nL cc own d (tyG G)) {i : Int32} (hd : decode cc pc = .ok (.iaload, 1)) (hin : vp_in i 16) (kk : WX K (mw G) nL X (pc + 1) lv (.int (X 26 (ix i)) :: rest)) : WX K (mw G) nL X pc lv (.int i :: .ref (G.1 26) :: rest) := x_iald C (ma_oldRung G) 0 rfl hd hin kk
theorem mS_oldRung {K : Cx} {G : Gx} {nL : Nat} {cc : ByteArray} {own : String} {d : Nat} {X : St} {pc : Nat} {lv : List (Nat × Value)} {rest : List Value} (C : XC K (mw G) nL cc own d (tyG G)) {i v : Int32} (hd : decode cc pc = .ok (.iastore, 1)) (hin : vp_in i 16) (kk : WX K (mw G) nL (ux X 26 (ix i) v) (pc + 1) lv rest) : WX K (mw G) nL X pc lv (.int v :: .int i :: .ref (G.1 26) :: rest) := x_iast C (ma_oldRung G) 0 rfl hd hin kk
theorem mL_writtenRung {K : Cx} {G : Gx} {nL : Nat} {cc : ByteArray} {own : String} {d : Nat} {X : St} {pc : Nat} {lv : List (Nat × Value)} {rest : List Value} (C : XC K (mw G) nL cc own d (tyG G)) {i : Int32} (hd : decode cc pc = .ok (.iaload, 1)) (hin : vp_in i 16) (kk : WX K (mw G) nL X (pc + 1) lv (.int (X 27 (ix i)) :: rest)) : WX K (mw G) nL X pc lv (.int i :: .ref (G.1 27) :: rest) := x_iald C (ma_writtenRung G) 0 rfl hd hin kk
theorem mS_writtenRung {K : Cx} {G : Gx} {nL : Nat} {cc : ByteArray} {own : String} {d : Nat} {X : St} {pc : Nat} {lv : List (Nat × Value)} {rest : List Value} (C : XC K (mw G) nL cc own d (tyG G)) {i v : Int32} (hd : decode cc pc = .ok (.iastore, 1)) (hin : vp_in i 16) (kk : WX K (mw G) nL (ux X 27 (ix i) v) (pc + 1) lv rest) : WX K (mw G) nL X pc lv (.int v :: .int i :: .ref (G.1 27) :: rest) := x_iast C (ma_writtenRung G) 0 rfl hd hin kk
theorem mL_besideRung {K : Cx} {G : Gx} {nL : Nat} {cc : ByteArray} {own : String} {d : Nat} {X : St} {pc : Nat} {lv : List (Nat × Value)} {rest : List Value} (C : XC K (mw G) nL cc own d (tyG G)) {i : Int32} (hd : decode cc pc = .ok (.iaload, 1)) (hin : vp_in i 16) (kk : WX K (mw G) nL X (pc + 1) lv (.int (X 28 (ix i)) :: rest)) : WX K (mw G) nL X pc lv (.int i :: .ref (G.1 28) :: rest) := x_iald C (ma_besideRung G) 0 rfl hd hin kk
theorem mS_besideRung {K : Cx} {G : Gx} {nL : Nat} {cc : ByteArray} {own : String} {d : Nat} {X : St} {pc : Nat} {lv : List (Nat × Value)} {rest : List Value} (C : XC K (mw G) nL cc own d (tyG G)) {i v : Int32} (hd : decode cc pc = .ok (.iastore, 1)) (hin : vp_in i 16) (kk : WX K (mw G) nL (ux X 28 (ix i) v) (pc + 1) lv rest) : WX K (mw G) nL X pc lv (.int v :: .int i :: .ref (G.1 28) :: rest) := x_iast C (ma_besideRung G) 0 rfl hd hin kk
theorem mL_aimOf {K : Cx} {G : Gx} {nL : Nat} {cc : ByteArray} {own : String} {d : Nat} {X : St} {pc : Nat} {lv : List (Nat × Value)} {rest : List Value} (C : XC K (mw G) nL cc own d (tyG G)) {i : Int32} (hd : decode cc pc = .ok (.iaload, 1)) (hin : vp_in i 16) (kk : WX K (mw G) nL X (pc + 1) lv (.int (X 29 (ix i)) :: rest)) : WX K (mw G) nL X pc lv (.int i :: .ref (G.1 29) :: rest) := x_iald C (ma_aimOf G) 0 rfl hd hin kk
theorem mS_aimOf {K : Cx} {G : Gx} {nL : Nat} {cc : ByteArray} {own : String} {d : Nat} {X : St} {pc : Nat} {lv : List (Nat × Value)} {rest : List Value} (C : XC K (mw G) nL cc own d (tyG G)) {i v : Int32} (hd : decode cc pc = .ok (.iastore, 1)) (hin : vp_in i 16) (kk : WX K (mw G) nL (ux X 29 (ix i) v) (pc + 1) lv rest) : WX K (mw G) nL X pc lv (.int v :: .int i :: .ref (G.1 29) :: rest) := x_iast C (ma_aimOf G) 0 rfl hd hin kk
theorem mL_ordered {K : Cx} {G : Gx} {nL : Nat} {cc : ByteArray} {own : String} {d : Nat} {X : St} {pc : Nat} {lv : List (Nat × Value)} {rest : List Value} (C : XC K (mw G) nL cc own d (tyG G)) {i : Int32} (hd : decode cc pc = .ok (.iaload, 1)) (hin : vp_in i 16) (kk : WX K (mw G) nL X (pc + 1) lv (.int (X 30 (ix i)) :: rest)) : WX K (mw G) nL X pc lv (.int i :: .ref (G.1 30) :: rest) := x_iald C (ma_ordered G) 0 rfl hd hin kk
theorem mS_ordered {K : Cx} {G : Gx} {nL : Nat} {cc : ByteArray} {own : String} {d : Nat} {X : St} {pc : Nat} {lv : List (Nat × Value)} {rest : List Value} (C : XC K (mw G) nL cc own d (tyG G)) {i v : Int32} (hd : decode cc pc = .ok (.iastore, 1)) (hin : vp_in i 16) (kk : WX K (mw G) nL (ux X 30 (ix i) v) (pc + 1) lv rest) : WX K (mw G) nL X pc lv (.int v :: .int i :: .ref (G.1 30) :: rest) := x_iast C (ma_ordered G) 0 rfl hd hin kk
theorem mL_scores {K : Cx} {G : Gx} {nL : Nat} {cc : ByteArray} {own : String} {d : Nat} {X : St} {pc : Nat} {lv : List (Nat × Value)} {rest : List Value} (C : XC K (mw G) nL cc own d (tyG G)) {i : Int32} (hd : decode cc pc = .ok (.iaload, 1)) (hin : vp_in i 16) (kk : WX K (mw G) nL X (pc + 1) lv (.int (X 31 (ix i)) :: rest)) : WX K (mw G) nL X pc lv (.int i :: .ref (G.1 31) :: rest) := x_iald C (ma_scores G) 0 rfl hd hin kk
theorem mS_scores {K : Cx} {G : Gx} {nL : Nat} {cc : ByteArray} {own : String} {d : Nat} {X : St} {pc : Nat} {lv : List (Nat × Value)} {rest : List Value} (C : XC K (mw G) nL cc own d (tyG G)) {i v : Int32} (hd : decode cc pc = .ok (.iastore, 1)) (hin : vp_in i 16) (kk : WX K (mw G) nL (ux X 31 (ix i) v) (pc + 1) lv rest) : WX K (mw G) nL X pc lv (.int v :: .int i :: .ref (G.1 31) :: rest) := x_iast C (ma_scores G) 0 rfl hd hin kk
theorem mL_boardBefore {K : Cx} {G : Gx} {nL : Nat} {cc : ByteArray} {own : String} {d : Nat} {X : St} {pc : Nat} {lv : List (Nat × Value)} {rest : List Value} (C : XC K (mw G) nL cc own d (tyG G)) {i : Int32} (hd : decode cc pc = .ok (.iaload, 1)) (hin : vp_in i 16) (kk : WX K (mw G) nL X (pc + 1) lv (.int (X 32 (ix i)) :: rest)) : WX K (mw G) nL X pc lv (.int i :: .ref (G.1 32) :: rest) := x_iald C (ma_boardBefore G) 0 rfl hd hin kk
theorem mS_boardBefore {K : Cx} {G : Gx} {nL : Nat} {cc : ByteArray} {own : String} {d : Nat} {X : St} {pc : Nat} {lv : List (Nat × Value)} {rest : List Value} (C : XC K (mw G) nL cc own d (tyG G)) {i v : Int32} (hd : decode cc pc = .ok (.iastore, 1)) (hin : vp_in i 16) (kk : WX K (mw G) nL (ux X 32 (ix i) v) (pc + 1) lv rest) : WX K (mw G) nL X pc lv (.int v :: .int i :: .ref (G.1 32) :: rest) := x_iast C (ma_boardBefore G) 0 rfl hd hin kk
theorem mL_play {K : Cx} {G : Gx} {nL : Nat} {cc : ByteArray} {own : String} {d : Nat} {X : St} {pc : Nat} {lv : List (Nat × Value)} {rest : List Value} (C : XC K (mw G) nL cc own d (tyG G)) {i : Int32} (hd : decode cc pc = .ok (.iaload, 1)) (hin : vp_in i 16) (kk : WX K (mw G) nL X (pc + 1) lv (.int (X 33 (ix i)) :: rest)) : WX K (mw G) nL X pc lv (.int i :: .ref (G.1 33) :: rest) := x_iald C (ma_play G) 0 rfl hd hin kk
theorem mS_play {K : Cx} {G : Gx} {nL : Nat} {cc : ByteArray} {own : String} {d : Nat} {X : St} {pc : Nat} {lv : List (Nat × Value)} {rest : List Value} (C : XC K (mw G) nL cc own d (tyG G)) {i v : Int32} (hd : decode cc pc = .ok (.iastore, 1)) (hin : vp_in i 16) (kk : WX K (mw G) nL (ux X 33 (ix i) v) (pc + 1) lv rest) : WX K (mw G) nL X pc lv (.int v :: .int i :: .ref (G.1 33) :: rest) := x_iast C (ma_play G) 0 rfl hd hin kk
section KX
variable {K : Cx} {wf : St → va_W} {nL pc : Nat} {lv : List (Nat × Value)} {rest : List Value}
theorem kx {f : Int32} {g : St} (k : WX K wf nL g pc lv (.int f :: rest)) : ∀ (r : Int32) (X1 : St), (r = f ∧ X1 = g) → WX K wf nL X1 pc lv (.int r :: rest) := fun r X1 h => by
  rw [h.1, h.2]; exact k
theorem kxl {f : Int64} {g : St} (k : WX K wf nL g pc lv (.long f :: rest)) : ∀ (r : Int64) (X1 : St), (r = f ∧ X1 = g) → WX K wf nL X1 pc lv (.long r :: rest) := fun r X1 h => by
  rw [h.1, h.2]; exact k
theorem kxv {g : St} (k : WX K wf nL g pc lv rest) : ∀ (X1 : St), X1 = g → WX K wf nL X1 pc lv rest := fun X1 h => by
  rw [h]; exact k
end KX
theorem hy_X8_wrestler : yX8_wrestler.cls = RX8 ∧ yX8_wrestler.cls ≠ "java/lang/invoke/MethodHandle" ∧ yX8_wrestler.cls ≠ "java/lang/invoke/VarHandle" ∧ (parseMethodDescriptor yX8_wrestler.desc).map (fun d => d.parameters.length) = some 3 := by decide +kernel
theorem hy_X8_isKind : yX8_isKind.cls = RX8 ∧ yX8_isKind.cls ≠ "java/lang/invoke/MethodHandle" ∧ yX8_isKind.cls ≠ "java/lang/invoke/VarHandle" ∧ (parseMethodDescriptor yX8_isKind.desc).map (fun d => d.parameters.length) = some 1 := by decide +kernel
theorem hy_X8_isGroup : yX8_isGroup.cls = RX8 ∧ yX8_isGroup.cls ≠ "java/lang/invoke/MethodHandle" ∧ yX8_isGroup.cls ≠ "java/lang/invoke/VarHandle" ∧ (parseMethodDescriptor yX8_isGroup.desc).map (fun d => d.parameters.length) = some 1 := by decide +kernel
theorem hy_X3_add : yX3_add.cls = RX3 ∧ yX3_add.cls ≠ "java/lang/invoke/MethodHandle" ∧ yX3_add.cls ≠ "java/lang/invoke/VarHandle" ∧ (parseMethodDescriptor yX3_add.desc).map (fun d => d.parameters.length) = some 3 := by decide +kernel
theorem hy_X3_place : yX3_place.cls = RX3 ∧ yX3_place.cls ≠ "java/lang/invoke/MethodHandle" ∧ yX3_place.cls ≠ "java/lang/invoke/VarHandle" ∧ (parseMethodDescriptor yX3_place.desc).map (fun d => d.parameters.length) = some 2 := by decide +kernel
theorem hy_X8_leave : yX8_leave.cls = RX8 ∧ yX8_leave.cls ≠ "java/lang/invoke/MethodHandle" ∧ yX8_leave.cls ≠ "java/lang/invoke/VarHandle" ∧ (parseMethodDescriptor yX8_leave.desc).map (fun d => d.parameters.length) = some 1 := by decide +kernel
theorem hy_X3_knows : yX3_knows.cls = RX3 ∧ yX3_knows.cls ≠ "java/lang/invoke/MethodHandle" ∧ yX3_knows.cls ≠ "java/lang/invoke/VarHandle" ∧ (parseMethodDescriptor yX3_knows.desc).map (fun d => d.parameters.length) = some 1 := by decide +kernel
theorem hy_X2_found : yX2_found.cls = RX2 ∧ yX2_found.cls ≠ "java/lang/invoke/MethodHandle" ∧ yX2_found.cls ≠ "java/lang/invoke/VarHandle" ∧ (parseMethodDescriptor yX2_found.desc).map (fun d => d.parameters.length) = some 1 := by decide +kernel
theorem hy_X3_remove : yX3_remove.cls = RX3 ∧ yX3_remove.cls ≠ "java/lang/invoke/MethodHandle" ∧ yX3_remove.cls ≠ "java/lang/invoke/VarHandle" ∧ (parseMethodDescriptor yX3_remove.desc).map (fun d => d.parameters.length) = some 1 := by decide +kernel
theorem hy_X8_told : yX8_told.cls = RX8 ∧ yX8_told.cls ≠ "java/lang/invoke/MethodHandle" ∧ yX8_told.cls ≠ "java/lang/invoke/VarHandle" ∧ (parseMethodDescriptor yX8_told.desc).map (fun d => d.parameters.length) = some 2 := by decide +kernel
theorem hy_X8_refusalOf : yX8_refusalOf.cls = RX8 ∧ yX8_refusalOf.cls ≠ "java/lang/invoke/MethodHandle" ∧ yX8_refusalOf.cls ≠ "java/lang/invoke/VarHandle" ∧ (parseMethodDescriptor yX8_refusalOf.desc).map (fun d => d.parameters.length) = some 1 := by decide +kernel
theorem hy_X3_fact : yX3_fact.cls = RX3 ∧ yX3_fact.cls ≠ "java/lang/invoke/MethodHandle" ∧ yX3_fact.cls ≠ "java/lang/invoke/VarHandle" ∧ (parseMethodDescriptor yX3_fact.desc).map (fun d => d.parameters.length) = some 2 := by decide +kernel
theorem hy_X8_is : yX8_is.cls = RX8 ∧ yX8_is.cls ≠ "java/lang/invoke/MethodHandle" ∧ yX8_is.cls ≠ "java/lang/invoke/VarHandle" ∧ (parseMethodDescriptor yX8_is.desc).map (fun d => d.parameters.length) = some 2 := by decide +kernel
theorem hy_X3_isOf : yX3_isOf.cls = RX3 ∧ yX3_isOf.cls ≠ "java/lang/invoke/MethodHandle" ∧ yX3_isOf.cls ≠ "java/lang/invoke/VarHandle" ∧ (parseMethodDescriptor yX3_isOf.desc).map (fun d => d.parameters.length) = some 2 := by decide +kernel
theorem hy_X8_on : yX8_on.cls = RX8 ∧ yX8_on.cls ≠ "java/lang/invoke/MethodHandle" ∧ yX8_on.cls ≠ "java/lang/invoke/VarHandle" ∧ (parseMethodDescriptor yX8_on.desc).map (fun d => d.parameters.length) = some 1 := by decide +kernel
theorem hy_X8_mark : yX8_mark.cls = RX8 ∧ yX8_mark.cls ≠ "java/lang/invoke/MethodHandle" ∧ yX8_mark.cls ≠ "java/lang/invoke/VarHandle" ∧ (parseMethodDescriptor yX8_mark.desc).map (fun d => d.parameters.length) = some 2 := by decide +kernel
theorem hy_X8_mean : yX8_mean.cls = RX8 ∧ yX8_mean.cls ≠ "java/lang/invoke/MethodHandle" ∧ yX8_mean.cls ≠ "java/lang/invoke/VarHandle" ∧ (parseMethodDescriptor yX8_mean.desc).map (fun d => d.parameters.length) = some 1 := by decide +kernel
theorem hy_X8_sheet : yX8_sheet.cls = RX8 ∧ yX8_sheet.cls ≠ "java/lang/invoke/MethodHandle" ∧ yX8_sheet.cls ≠ "java/lang/invoke/VarHandle" ∧ (parseMethodDescriptor yX8_sheet.desc).map (fun d => d.parameters.length) = some 2 := by decide +kernel
theorem hy_X8_isSheet : yX8_isSheet.cls = RX8 ∧ yX8_isSheet.cls ≠ "java/lang/invoke/MethodHandle" ∧ yX8_isSheet.cls ≠ "java/lang/invoke/VarHandle" ∧ (parseMethodDescriptor yX8_isSheet.desc).map (fun d => d.parameters.length) = some 1 := by decide +kernel
theorem hy_X4_blank : yX4_blank.cls = RX4 ∧ yX4_blank.cls ≠ "java/lang/invoke/MethodHandle" ∧ yX4_blank.cls ≠ "java/lang/invoke/VarHandle" ∧ (parseMethodDescriptor yX4_blank.desc).map (fun d => d.parameters.length) = some 2 := by decide +kernel
theorem hy_X8_lay : yX8_lay.cls = RX8 ∧ yX8_lay.cls ≠ "java/lang/invoke/MethodHandle" ∧ yX8_lay.cls ≠ "java/lang/invoke/VarHandle" ∧ (parseMethodDescriptor yX8_lay.desc).map (fun d => d.parameters.length) = some 3 := by decide +kernel
theorem hy_X4_isMissing : yX4_isMissing.cls = RX4 ∧ yX4_isMissing.cls ≠ "java/lang/invoke/MethodHandle" ∧ yX4_isMissing.cls ≠ "java/lang/invoke/VarHandle" ∧ (parseMethodDescriptor yX4_isMissing.desc).map (fun d => d.parameters.length) = some 1 := by decide +kernel
theorem hy_X4_replace : yX4_replace.cls = RX4 ∧ yX4_replace.cls ≠ "java/lang/invoke/MethodHandle" ∧ yX4_replace.cls ≠ "java/lang/invoke/VarHandle" ∧ (parseMethodDescriptor yX4_replace.desc).map (fun d => d.parameters.length) = some 3 := by decide +kernel
theorem hy_X8_tear : yX8_tear.cls = RX8 ∧ yX8_tear.cls ≠ "java/lang/invoke/MethodHandle" ∧ yX8_tear.cls ≠ "java/lang/invoke/VarHandle" ∧ (parseMethodDescriptor yX8_tear.desc).map (fun d => d.parameters.length) = some 1 := by decide +kernel
theorem hy_X8_copy : yX8_copy.cls = RX8 ∧ yX8_copy.cls ≠ "java/lang/invoke/MethodHandle" ∧ yX8_copy.cls ≠ "java/lang/invoke/VarHandle" ∧ (parseMethodDescriptor yX8_copy.desc).map (fun d => d.parameters.length) = some 5 := by decide +kernel
theorem hy_X4_holds : yX4_holds.cls = RX4 ∧ yX4_holds.cls ≠ "java/lang/invoke/MethodHandle" ∧ yX4_holds.cls ≠ "java/lang/invoke/VarHandle" ∧ (parseMethodDescriptor yX4_holds.desc).map (fun d => d.parameters.length) = some 3 := by decide +kernel
theorem hy_X8_prices : yX8_prices.cls = RX8 ∧ yX8_prices.cls ≠ "java/lang/invoke/MethodHandle" ∧ yX8_prices.cls ≠ "java/lang/invoke/VarHandle" ∧ (parseMethodDescriptor yX8_prices.desc).map (fun d => d.parameters.length) = some 1 := by decide +kernel
theorem hy_X8_price : yX8_price.cls = RX8 ∧ yX8_price.cls ≠ "java/lang/invoke/MethodHandle" ∧ yX8_price.cls ≠ "java/lang/invoke/VarHandle" ∧ (parseMethodDescriptor yX8_price.desc).map (fun d => d.parameters.length) = some 1 := by decide +kernel
theorem hy_X4_priceOf : yX4_priceOf.cls = RX4 ∧ yX4_priceOf.cls ≠ "java/lang/invoke/MethodHandle" ∧ yX4_priceOf.cls ≠ "java/lang/invoke/VarHandle" ∧ (parseMethodDescriptor yX4_priceOf.desc).map (fun d => d.parameters.length) = some 1 := by decide +kernel
theorem hy_X8_meet : yX8_meet.cls = RX8 ∧ yX8_meet.cls ≠ "java/lang/invoke/MethodHandle" ∧ yX8_meet.cls ≠ "java/lang/invoke/VarHandle" ∧ (parseMethodDescriptor yX8_meet.desc).map (fun d => d.parameters.length) = some 1 := by decide +kernel
theorem hy_X6_begin : yX6_begin.cls = RX6 ∧ yX6_begin.cls ≠ "java/lang/invoke/MethodHandle" ∧ yX6_begin.cls ≠ "java/lang/invoke/VarHandle" ∧ (parseMethodDescriptor yX6_begin.desc).map (fun d => d.parameters.length) = some 1 := by decide +kernel
theorem hy_X3_clearScores : yX3_clearScores.cls = RX3 ∧ yX3_clearScores.cls ≠ "java/lang/invoke/MethodHandle" ∧ yX3_clearScores.cls ≠ "java/lang/invoke/VarHandle" ∧ (parseMethodDescriptor yX3_clearScores.desc).map (fun d => d.parameters.length) = some 0 := by decide +kernel
theorem hy_X5_clear : yX5_clear.cls = RX5 ∧ yX5_clear.cls ≠ "java/lang/invoke/MethodHandle" ∧ yX5_clear.cls ≠ "java/lang/invoke/VarHandle" ∧ (parseMethodDescriptor yX5_clear.desc).map (fun d => d.parameters.length) = some 0 := by decide +kernel
theorem hy_X8_absent : yX8_absent.cls = RX8 ∧ yX8_absent.cls ≠ "java/lang/invoke/MethodHandle" ∧ yX8_absent.cls ≠ "java/lang/invoke/VarHandle" ∧ (parseMethodDescriptor yX8_absent.desc).map (fun d => d.parameters.length) = some 2 := by decide +kernel
theorem hy_X8_barred : yX8_barred.cls = RX8 ∧ yX8_barred.cls ≠ "java/lang/invoke/MethodHandle" ∧ yX8_barred.cls ≠ "java/lang/invoke/VarHandle" ∧ (parseMethodDescriptor yX8_barred.desc).map (fun d => d.parameters.length) = some 2 := by decide +kernel
theorem hy_X8_barsBetween : yX8_barsBetween.cls = RX8 ∧ yX8_barsBetween.cls ≠ "java/lang/invoke/MethodHandle" ∧ yX8_barsBetween.cls ≠ "java/lang/invoke/VarHandle" ∧ (parseMethodDescriptor yX8_barsBetween.desc).map (fun d => d.parameters.length) = some 2 := by decide +kernel
theorem hy_X6_haveMet : yX6_haveMet.cls = RX6 ∧ yX6_haveMet.cls ≠ "java/lang/invoke/MethodHandle" ∧ yX6_haveMet.cls ≠ "java/lang/invoke/VarHandle" ∧ (parseMethodDescriptor yX6_haveMet.desc).map (fun d => d.parameters.length) = some 2 := by decide +kernel
theorem hy_X8_draw : yX8_draw.cls = RX8 ∧ yX8_draw.cls ≠ "java/lang/invoke/MethodHandle" ∧ yX8_draw.cls ≠ "java/lang/invoke/VarHandle" ∧ (parseMethodDescriptor yX8_draw.desc).map (fun d => d.parameters.length) = some 0 := by decide +kernel
theorem hy_X8_gatherThosePresent : yX8_gatherThosePresent.cls = RX8 ∧ yX8_gatherThosePresent.cls ≠ "java/lang/invoke/MethodHandle" ∧ yX8_gatherThosePresent.cls ≠ "java/lang/invoke/VarHandle" ∧ (parseMethodDescriptor yX8_gatherThosePresent.desc).map (fun d => d.parameters.length) = some 0 := by decide +kernel
theorem hy_X8_setCharges : yX8_setCharges.cls = RX8 ∧ yX8_setCharges.cls ≠ "java/lang/invoke/MethodHandle" ∧ yX8_setCharges.cls ≠ "java/lang/invoke/VarHandle" ∧ (parseMethodDescriptor yX8_setCharges.desc).map (fun d => d.parameters.length) = some 0 := by decide +kernel
theorem hy_X8_chargeFor : yX8_chargeFor.cls = RX8 ∧ yX8_chargeFor.cls ≠ "java/lang/invoke/MethodHandle" ∧ yX8_chargeFor.cls ≠ "java/lang/invoke/VarHandle" ∧ (parseMethodDescriptor yX8_chargeFor.desc).map (fun d => d.parameters.length) = some 2 := by decide +kernel
theorem hy_X1_solve : yX1_solve.cls = RX1 ∧ yX1_solve.cls ≠ "java/lang/invoke/MethodHandle" ∧ yX1_solve.cls ≠ "java/lang/invoke/VarHandle" ∧ (parseMethodDescriptor yX1_solve.desc).map (fun d => d.parameters.length) = some 0 := by decide +kernel
theorem hy_X1_leastCost : yX1_leastCost.cls = RX1 ∧ yX1_leastCost.cls ≠ "java/lang/invoke/MethodHandle" ∧ yX1_leastCost.cls ≠ "java/lang/invoke/VarHandle" ∧ (parseMethodDescriptor yX1_leastCost.desc).map (fun d => d.parameters.length) = some 3 := by decide +kernel
theorem hy_X1_bitOf : yX1_bitOf.cls = RX1 ∧ yX1_bitOf.cls ≠ "java/lang/invoke/MethodHandle" ∧ yX1_bitOf.cls ≠ "java/lang/invoke/VarHandle" ∧ (parseMethodDescriptor yX1_bitOf.desc).map (fun d => d.parameters.length) = some 1 := by decide +kernel
theorem hy_X1_uppermostMate : yX1_uppermostMate.cls = RX1 ∧ yX1_uppermostMate.cls ≠ "java/lang/invoke/MethodHandle" ∧ yX1_uppermostMate.cls ≠ "java/lang/invoke/VarHandle" ∧ (parseMethodDescriptor yX1_uppermostMate.desc).map (fun d => d.parameters.length) = some 3 := by decide +kernel
theorem hy_X8_enterDay : yX8_enterDay.cls = RX8 ∧ yX8_enterDay.cls ≠ "java/lang/invoke/MethodHandle" ∧ yX8_enterDay.cls ≠ "java/lang/invoke/VarHandle" ∧ (parseMethodDescriptor yX8_enterDay.desc).map (fun d => d.parameters.length) = some 0 := by decide +kernel
theorem hy_X6_addBout : yX6_addBout.cls = RX6 ∧ yX6_addBout.cls ≠ "java/lang/invoke/MethodHandle" ∧ yX6_addBout.cls ≠ "java/lang/invoke/VarHandle" ∧ (parseMethodDescriptor yX6_addBout.desc).map (fun d => d.parameters.length) = some 2 := by decide +kernel
theorem hy_X8_cost : yX8_cost.cls = RX8 ∧ yX8_cost.cls ≠ "java/lang/invoke/MethodHandle" ∧ yX8_cost.cls ≠ "java/lang/invoke/VarHandle" ∧ (parseMethodDescriptor yX8_cost.desc).map (fun d => d.parameters.length) = some 0 := by decide +kernel
theorem hy_X8_result : yX8_result.cls = RX8 ∧ yX8_result.cls ≠ "java/lang/invoke/MethodHandle" ∧ yX8_result.cls ≠ "java/lang/invoke/VarHandle" ∧ (parseMethodDescriptor yX8_result.desc).map (fun d => d.parameters.length) = some 2 := by decide +kernel
theorem hy_X6_knows : yX6_knows.cls = RX6 ∧ yX6_knows.cls ≠ "java/lang/invoke/MethodHandle" ∧ yX6_knows.cls ≠ "java/lang/invoke/VarHandle" ∧ (parseMethodDescriptor yX6_knows.desc).map (fun d => d.parameters.length) = some 1 := by decide +kernel
theorem hy_X6_loserOf : yX6_loserOf.cls = RX6 ∧ yX6_loserOf.cls ≠ "java/lang/invoke/MethodHandle" ∧ yX6_loserOf.cls ≠ "java/lang/invoke/VarHandle" ∧ (parseMethodDescriptor yX6_loserOf.desc).map (fun d => d.parameters.length) = some 1 := by decide +kernel
theorem hy_X8_bout : yX8_bout.cls = RX8 ∧ yX8_bout.cls ≠ "java/lang/invoke/MethodHandle" ∧ yX8_bout.cls ≠ "java/lang/invoke/VarHandle" ∧ (parseMethodDescriptor yX8_bout.desc).map (fun d => d.parameters.length) = some 2 := by decide +kernel
theorem hy_X6_fact : yX6_fact.cls = RX6 ∧ yX6_fact.cls ≠ "java/lang/invoke/MethodHandle" ∧ yX6_fact.cls ≠ "java/lang/invoke/VarHandle" ∧ (parseMethodDescriptor yX6_fact.desc).map (fun d => d.parameters.length) = some 2 := by decide +kernel
theorem hy_X8_sat : yX8_sat.cls = RX8 ∧ yX8_sat.cls ≠ "java/lang/invoke/MethodHandle" ∧ yX8_sat.cls ≠ "java/lang/invoke/VarHandle" ∧ (parseMethodDescriptor yX8_sat.desc).map (fun d => d.parameters.length) = some 0 := by decide +kernel
theorem hy_X8_line : yX8_line.cls = RX8 ∧ yX8_line.cls ≠ "java/lang/invoke/MethodHandle" ∧ yX8_line.cls ≠ "java/lang/invoke/VarHandle" ∧ (parseMethodDescriptor yX8_line.desc).map (fun d => d.parameters.length) = some 3 := by decide +kernel
theorem hy_X0_add : yX0_add.cls = RX0 ∧ yX0_add.cls ≠ "java/lang/invoke/MethodHandle" ∧ yX0_add.cls ≠ "java/lang/invoke/VarHandle" ∧ (parseMethodDescriptor yX0_add.desc).map (fun d => d.parameters.length) = some 3 := by decide +kernel
theorem hy_X8_anew : yX8_anew.cls = RX8 ∧ yX8_anew.cls ≠ "java/lang/invoke/MethodHandle" ∧ yX8_anew.cls ≠ "java/lang/invoke/VarHandle" ∧ (parseMethodDescriptor yX8_anew.desc).map (fun d => d.parameters.length) = some 0 := by decide +kernel
theorem hy_X6_isComplete : yX6_isComplete.cls = RX6 ∧ yX6_isComplete.cls ≠ "java/lang/invoke/MethodHandle" ∧ yX6_isComplete.cls ≠ "java/lang/invoke/VarHandle" ∧ (parseMethodDescriptor yX6_isComplete.desc).map (fun d => d.parameters.length) = some 0 := by decide +kernel
theorem hy_X5_goesOn : yX5_goesOn.cls = RX5 ∧ yX5_goesOn.cls ≠ "java/lang/invoke/MethodHandle" ∧ yX5_goesOn.cls ≠ "java/lang/invoke/VarHandle" ∧ (parseMethodDescriptor yX5_goesOn.desc).map (fun d => d.parameters.length) = some 0 := by decide +kernel
theorem hy_X7_recall : yX7_recall.cls = RX7 ∧ yX7_recall.cls ≠ "java/lang/invoke/MethodHandle" ∧ yX7_recall.cls ≠ "java/lang/invoke/VarHandle" ∧ (parseMethodDescriptor yX7_recall.desc).map (fun d => d.parameters.length) = some 2 := by decide +kernel
theorem hy_X8_moveByCustom : yX8_moveByCustom.cls = RX8 ∧ yX8_moveByCustom.cls ≠ "java/lang/invoke/MethodHandle" ∧ yX8_moveByCustom.cls ≠ "java/lang/invoke/VarHandle" ∧ (parseMethodDescriptor yX8_moveByCustom.desc).map (fun d => d.parameters.length) = some 1 := by decide +kernel
theorem hy_X0_lineFor : yX0_lineFor.cls = RX0 ∧ yX0_lineFor.cls ≠ "java/lang/invoke/MethodHandle" ∧ yX0_lineFor.cls ≠ "java/lang/invoke/VarHandle" ∧ (parseMethodDescriptor yX0_lineFor.desc).map (fun d => d.parameters.length) = some 2 := by decide +kernel
theorem hy_X0_steps : yX0_steps.cls = RX0 ∧ yX0_steps.cls ≠ "java/lang/invoke/MethodHandle" ∧ yX0_steps.cls ≠ "java/lang/invoke/VarHandle" ∧ (parseMethodDescriptor yX0_steps.desc).map (fun d => d.parameters.length) = some 2 := by decide +kernel
theorem hy_X7_aimAt : yX7_aimAt.cls = RX7 ∧ yX7_aimAt.cls ≠ "java/lang/invoke/MethodHandle" ∧ yX7_aimAt.cls ≠ "java/lang/invoke/VarHandle" ∧ (parseMethodDescriptor yX7_aimAt.desc).map (fun d => d.parameters.length) = some 2 := by decide +kernel
theorem hy_X7_arrange : yX7_arrange.cls = RX7 ∧ yX7_arrange.cls ≠ "java/lang/invoke/MethodHandle" ∧ yX7_arrange.cls ≠ "java/lang/invoke/VarHandle" ∧ (parseMethodDescriptor yX7_arrange.desc).map (fun d => d.parameters.length) = some 0 := by decide +kernel
theorem hy_X7_differing : yX7_differing.cls = RX7 ∧ yX7_differing.cls ≠ "java/lang/invoke/MethodHandle" ∧ yX7_differing.cls ≠ "java/lang/invoke/VarHandle" ∧ (parseMethodDescriptor yX7_differing.desc).map (fun d => d.parameters.length) = some 1 := by decide +kernel
theorem hy_X8_why : yX8_why.cls = RX8 ∧ yX8_why.cls ≠ "java/lang/invoke/MethodHandle" ∧ yX8_why.cls ≠ "java/lang/invoke/VarHandle" ∧ (parseMethodDescriptor yX8_why.desc).map (fun d => d.parameters.length) = some 1 := by decide +kernel
theorem hy_X8_passed : yX8_passed.cls = RX8 ∧ yX8_passed.cls ≠ "java/lang/invoke/MethodHandle" ∧ yX8_passed.cls ≠ "java/lang/invoke/VarHandle" ∧ (parseMethodDescriptor yX8_passed.desc).map (fun d => d.parameters.length) = some 2 := by decide +kernel
theorem hy_X7_overtook : yX7_overtook.cls = RX7 ∧ yX7_overtook.cls ≠ "java/lang/invoke/MethodHandle" ∧ yX7_overtook.cls ≠ "java/lang/invoke/VarHandle" ∧ (parseMethodDescriptor yX7_overtook.desc).map (fun d => d.parameters.length) = some 2 := by decide +kernel
theorem hy_X8_beside : yX8_beside.cls = RX8 ∧ yX8_beside.cls ≠ "java/lang/invoke/MethodHandle" ∧ yX8_beside.cls ≠ "java/lang/invoke/VarHandle" ∧ (parseMethodDescriptor yX8_beside.desc).map (fun d => d.parameters.length) = some 1 := by decide +kernel
theorem hy_X8_scoreWithout : yX8_scoreWithout.cls = RX8 ∧ yX8_scoreWithout.cls ≠ "java/lang/invoke/MethodHandle" ∧ yX8_scoreWithout.cls ≠ "java/lang/invoke/VarHandle" ∧ (parseMethodDescriptor yX8_scoreWithout.desc).map (fun d => d.parameters.length) = some 2 := by decide +kernel
theorem hy_X8_rungBeside : yX8_rungBeside.cls = RX8 ∧ yX8_rungBeside.cls ≠ "java/lang/invoke/MethodHandle" ∧ yX8_rungBeside.cls ≠ "java/lang/invoke/VarHandle" ∧ (parseMethodDescriptor yX8_rungBeside.desc).map (fun d => d.parameters.length) = some 1 := by decide +kernel
theorem hy_X8_leaders : yX8_leaders.cls = RX8 ∧ yX8_leaders.cls ≠ "java/lang/invoke/MethodHandle" ∧ yX8_leaders.cls ≠ "java/lang/invoke/VarHandle" ∧ (parseMethodDescriptor yX8_leaders.desc).map (fun d => d.parameters.length) = some 0 := by decide +kernel
theorem hy_X3_mostWins : yX3_mostWins.cls = RX3 ∧ yX3_mostWins.cls ≠ "java/lang/invoke/MethodHandle" ∧ yX3_mostWins.cls ≠ "java/lang/invoke/VarHandle" ∧ (parseMethodDescriptor yX3_mostWins.desc).map (fun d => d.parameters.length) = some 0 := by decide +kernel
theorem hy_X8_playOff : yX8_playOff.cls = RX8 ∧ yX8_playOff.cls ≠ "java/lang/invoke/MethodHandle" ∧ yX8_playOff.cls ≠ "java/lang/invoke/VarHandle" ∧ (parseMethodDescriptor yX8_playOff.desc).map (fun d => d.parameters.length) = some 0 := by decide +kernel
theorem hy_X5_append : yX5_append.cls = RX5 ∧ yX5_append.cls ≠ "java/lang/invoke/MethodHandle" ∧ yX5_append.cls ≠ "java/lang/invoke/VarHandle" ∧ (parseMethodDescriptor yX5_append.desc).map (fun d => d.parameters.length) = some 1 := by decide +kernel
theorem hy_X8_crownIfAlone : yX8_crownIfAlone.cls = RX8 ∧ yX8_crownIfAlone.cls ≠ "java/lang/invoke/MethodHandle" ∧ yX8_crownIfAlone.cls ≠ "java/lang/invoke/VarHandle" ∧ (parseMethodDescriptor yX8_crownIfAlone.desc).map (fun d => d.parameters.length) = some 0 := by decide +kernel
theorem hy_X8_meets : yX8_meets.cls = RX8 ∧ yX8_meets.cls ≠ "java/lang/invoke/MethodHandle" ∧ yX8_meets.cls ≠ "java/lang/invoke/VarHandle" ∧ (parseMethodDescriptor yX8_meets.desc).map (fun d => d.parameters.length) = some 1 := by decide +kernel
theorem hy_X8_wins : yX8_wins.cls = RX8 ∧ yX8_wins.cls ≠ "java/lang/invoke/MethodHandle" ∧ yX8_wins.cls ≠ "java/lang/invoke/VarHandle" ∧ (parseMethodDescriptor yX8_wins.desc).map (fun d => d.parameters.length) = some 1 := by decide +kernel
theorem hy_X5_settle : yX5_settle.cls = RX5 ∧ yX5_settle.cls ≠ "java/lang/invoke/MethodHandle" ∧ yX5_settle.cls ≠ "java/lang/invoke/VarHandle" ∧ (parseMethodDescriptor yX5_settle.desc).map (fun d => d.parameters.length) = some 1 := by decide +kernel
theorem hy_X8_champion : yX8_champion.cls = RX8 ∧ yX8_champion.cls ≠ "java/lang/invoke/MethodHandle" ∧ yX8_champion.cls ≠ "java/lang/invoke/VarHandle" ∧ (parseMethodDescriptor yX8_champion.desc).map (fun d => d.parameters.length) = some 0 := by decide +kernel
theorem hy_X8_count : yX8_count.cls = RX8 ∧ yX8_count.cls ≠ "java/lang/invoke/MethodHandle" ∧ yX8_count.cls ≠ "java/lang/invoke/VarHandle" ∧ (parseMethodDescriptor yX8_count.desc).map (fun d => d.parameters.length) = some 1 := by decide +kernel
theorem hy_X8_tally : yX8_tally.cls = RX8 ∧ yX8_tally.cls ≠ "java/lang/invoke/MethodHandle" ∧ yX8_tally.cls ≠ "java/lang/invoke/VarHandle" ∧ (parseMethodDescriptor yX8_tally.desc).map (fun d => d.parameters.length) = some 1 := by decide +kernel
theorem hy_X8_finding : yX8_finding.cls = RX8 ∧ yX8_finding.cls ≠ "java/lang/invoke/MethodHandle" ∧ yX8_finding.cls ≠ "java/lang/invoke/VarHandle" ∧ (parseMethodDescriptor yX8_finding.desc).map (fun d => d.parameters.length) = some 0 := by decide +kernel
theorem hy_X8_findings : yX8_findings.cls = RX8 ∧ yX8_findings.cls ≠ "java/lang/invoke/MethodHandle" ∧ yX8_findings.cls ≠ "java/lang/invoke/VarHandle" ∧ (parseMethodDescriptor yX8_findings.desc).map (fun d => d.parameters.length) = some 1 := by decide +kernel
theorem hy_X8_digest : yX8_digest.cls = RX8 ∧ yX8_digest.cls ≠ "java/lang/invoke/MethodHandle" ∧ yX8_digest.cls ≠ "java/lang/invoke/VarHandle" ∧ (parseMethodDescriptor yX8_digest.desc).map (fun d => d.parameters.length) = some 0 := by decide +kernel
theorem hy_X8_withWrestler : yX8_withWrestler.cls = RX8 ∧ yX8_withWrestler.cls ≠ "java/lang/invoke/MethodHandle" ∧ yX8_withWrestler.cls ≠ "java/lang/invoke/VarHandle" ∧ (parseMethodDescriptor yX8_withWrestler.desc).map (fun d => d.parameters.length) = some 2 := by decide +kernel
theorem hy_X8_withSheet : yX8_withSheet.cls = RX8 ∧ yX8_withSheet.cls ≠ "java/lang/invoke/MethodHandle" ∧ yX8_withSheet.cls ≠ "java/lang/invoke/VarHandle" ∧ (parseMethodDescriptor yX8_withSheet.desc).map (fun d => d.parameters.length) = some 2 := by decide +kernel
theorem hy_X9_finding : yX9_finding.cls = RX9 ∧ yX9_finding.cls ≠ "java/lang/invoke/MethodHandle" ∧ yX9_finding.cls ≠ "java/lang/invoke/VarHandle" ∧ (parseMethodDescriptor yX9_finding.desc).map (fun d => d.parameters.length) = some 0 := by decide +kernel
theorem hy_X9_findings : yX9_findings.cls = RX9 ∧ yX9_findings.cls ≠ "java/lang/invoke/MethodHandle" ∧ yX9_findings.cls ≠ "java/lang/invoke/VarHandle" ∧ (parseMethodDescriptor yX9_findings.desc).map (fun d => d.parameters.length) = some 1 := by decide +kernel
theorem hy_X9_in : yX9_in.cls = RX9 ∧ yX9_in.cls ≠ "java/lang/invoke/MethodHandle" ∧ yX9_in.cls ≠ "java/lang/invoke/VarHandle" ∧ (parseMethodDescriptor yX9_in.desc).map (fun d => d.parameters.length) = some 3 := by decide +kernel
theorem hy_X9_wrestler : yX9_wrestler.cls = RX9 ∧ yX9_wrestler.cls ≠ "java/lang/invoke/MethodHandle" ∧ yX9_wrestler.cls ≠ "java/lang/invoke/VarHandle" ∧ (parseMethodDescriptor yX9_wrestler.desc).map (fun d => d.parameters.length) = some 3 := by decide +kernel
theorem hy_X9_leave : yX9_leave.cls = RX9 ∧ yX9_leave.cls ≠ "java/lang/invoke/MethodHandle" ∧ yX9_leave.cls ≠ "java/lang/invoke/VarHandle" ∧ (parseMethodDescriptor yX9_leave.desc).map (fun d => d.parameters.length) = some 1 := by decide +kernel
theorem hy_X9_isOne : yX9_isOne.cls = RX9 ∧ yX9_isOne.cls ≠ "java/lang/invoke/MethodHandle" ∧ yX9_isOne.cls ≠ "java/lang/invoke/VarHandle" ∧ (parseMethodDescriptor yX9_isOne.desc).map (fun d => d.parameters.length) = some 1 := by decide +kernel
theorem hy_X9_meets : yX9_meets.cls = RX9 ∧ yX9_meets.cls ≠ "java/lang/invoke/MethodHandle" ∧ yX9_meets.cls ≠ "java/lang/invoke/VarHandle" ∧ (parseMethodDescriptor yX9_meets.desc).map (fun d => d.parameters.length) = some 1 := by decide +kernel
theorem hy_X9_rungOf : yX9_rungOf.cls = RX9 ∧ yX9_rungOf.cls ≠ "java/lang/invoke/MethodHandle" ∧ yX9_rungOf.cls ≠ "java/lang/invoke/VarHandle" ∧ (parseMethodDescriptor yX9_rungOf.desc).map (fun d => d.parameters.length) = some 1 := by decide +kernel
theorem hy_X9_told : yX9_told.cls = RX9 ∧ yX9_told.cls ≠ "java/lang/invoke/MethodHandle" ∧ yX9_told.cls ≠ "java/lang/invoke/VarHandle" ∧ (parseMethodDescriptor yX9_told.desc).map (fun d => d.parameters.length) = some 2 := by decide +kernel
theorem hy_X9_need : yX9_need.cls = RX9 ∧ yX9_need.cls ≠ "java/lang/invoke/MethodHandle" ∧ yX9_need.cls ≠ "java/lang/invoke/VarHandle" ∧ (parseMethodDescriptor yX9_need.desc).map (fun d => d.parameters.length) = some 2 := by decide +kernel
theorem hy_X9_toldOf : yX9_toldOf.cls = RX9 ∧ yX9_toldOf.cls ≠ "java/lang/invoke/MethodHandle" ∧ yX9_toldOf.cls ≠ "java/lang/invoke/VarHandle" ∧ (parseMethodDescriptor yX9_toldOf.desc).map (fun d => d.parameters.length) = some 2 := by decide +kernel
theorem hy_X9_is : yX9_is.cls = RX9 ∧ yX9_is.cls ≠ "java/lang/invoke/MethodHandle" ∧ yX9_is.cls ≠ "java/lang/invoke/VarHandle" ∧ (parseMethodDescriptor yX9_is.desc).map (fun d => d.parameters.length) = some 2 := by decide +kernel
theorem hy_X9_on : yX9_on.cls = RX9 ∧ yX9_on.cls ≠ "java/lang/invoke/MethodHandle" ∧ yX9_on.cls ≠ "java/lang/invoke/VarHandle" ∧ (parseMethodDescriptor yX9_on.desc).map (fun d => d.parameters.length) = some 1 := by decide +kernel
theorem hy_X9_mark : yX9_mark.cls = RX9 ∧ yX9_mark.cls ≠ "java/lang/invoke/MethodHandle" ∧ yX9_mark.cls ≠ "java/lang/invoke/VarHandle" ∧ (parseMethodDescriptor yX9_mark.desc).map (fun d => d.parameters.length) = some 2 := by decide +kernel
theorem hy_X9_mean : yX9_mean.cls = RX9 ∧ yX9_mean.cls ≠ "java/lang/invoke/MethodHandle" ∧ yX9_mean.cls ≠ "java/lang/invoke/VarHandle" ∧ (parseMethodDescriptor yX9_mean.desc).map (fun d => d.parameters.length) = some 1 := by decide +kernel
theorem hy_X9_sheet : yX9_sheet.cls = RX9 ∧ yX9_sheet.cls ≠ "java/lang/invoke/MethodHandle" ∧ yX9_sheet.cls ≠ "java/lang/invoke/VarHandle" ∧ (parseMethodDescriptor yX9_sheet.desc).map (fun d => d.parameters.length) = some 2 := by decide +kernel
theorem hy_X9_isSheet : yX9_isSheet.cls = RX9 ∧ yX9_isSheet.cls ≠ "java/lang/invoke/MethodHandle" ∧ yX9_isSheet.cls ≠ "java/lang/invoke/VarHandle" ∧ (parseMethodDescriptor yX9_isSheet.desc).map (fun d => d.parameters.length) = some 1 := by decide +kernel
theorem hy_X9_lay : yX9_lay.cls = RX9 ∧ yX9_lay.cls ≠ "java/lang/invoke/MethodHandle" ∧ yX9_lay.cls ≠ "java/lang/invoke/VarHandle" ∧ (parseMethodDescriptor yX9_lay.desc).map (fun d => d.parameters.length) = some 3 := by decide +kernel
theorem hy_X9_tear : yX9_tear.cls = RX9 ∧ yX9_tear.cls ≠ "java/lang/invoke/MethodHandle" ∧ yX9_tear.cls ≠ "java/lang/invoke/VarHandle" ∧ (parseMethodDescriptor yX9_tear.desc).map (fun d => d.parameters.length) = some 1 := by decide +kernel
theorem hy_X9_copy : yX9_copy.cls = RX9 ∧ yX9_copy.cls ≠ "java/lang/invoke/MethodHandle" ∧ yX9_copy.cls ≠ "java/lang/invoke/VarHandle" ∧ (parseMethodDescriptor yX9_copy.desc).map (fun d => d.parameters.length) = some 5 := by decide +kernel
theorem hy_X9_prices : yX9_prices.cls = RX9 ∧ yX9_prices.cls ≠ "java/lang/invoke/MethodHandle" ∧ yX9_prices.cls ≠ "java/lang/invoke/VarHandle" ∧ (parseMethodDescriptor yX9_prices.desc).map (fun d => d.parameters.length) = some 1 := by decide +kernel
theorem hy_X9_price : yX9_price.cls = RX9 ∧ yX9_price.cls ≠ "java/lang/invoke/MethodHandle" ∧ yX9_price.cls ≠ "java/lang/invoke/VarHandle" ∧ (parseMethodDescriptor yX9_price.desc).map (fun d => d.parameters.length) = some 1 := by decide +kernel
theorem hy_X9_priceOf : yX9_priceOf.cls = RX9 ∧ yX9_priceOf.cls ≠ "java/lang/invoke/MethodHandle" ∧ yX9_priceOf.cls ≠ "java/lang/invoke/VarHandle" ∧ (parseMethodDescriptor yX9_priceOf.desc).map (fun d => d.parameters.length) = some 1 := by decide +kernel
theorem hy_X9_meet : yX9_meet.cls = RX9 ∧ yX9_meet.cls ≠ "java/lang/invoke/MethodHandle" ∧ yX9_meet.cls ≠ "java/lang/invoke/VarHandle" ∧ (parseMethodDescriptor yX9_meet.desc).map (fun d => d.parameters.length) = some 1 := by decide +kernel
theorem hy_X9_absent : yX9_absent.cls = RX9 ∧ yX9_absent.cls ≠ "java/lang/invoke/MethodHandle" ∧ yX9_absent.cls ≠ "java/lang/invoke/VarHandle" ∧ (parseMethodDescriptor yX9_absent.desc).map (fun d => d.parameters.length) = some 2 := by decide +kernel
theorem hy_X9_barred : yX9_barred.cls = RX9 ∧ yX9_barred.cls ≠ "java/lang/invoke/MethodHandle" ∧ yX9_barred.cls ≠ "java/lang/invoke/VarHandle" ∧ (parseMethodDescriptor yX9_barred.desc).map (fun d => d.parameters.length) = some 2 := by decide +kernel
theorem hy_X9_barredBits : yX9_barredBits.cls = RX9 ∧ yX9_barredBits.cls ≠ "java/lang/invoke/MethodHandle" ∧ yX9_barredBits.cls ≠ "java/lang/invoke/VarHandle" ∧ (parseMethodDescriptor yX9_barredBits.desc).map (fun d => d.parameters.length) = some 2 := by decide +kernel
theorem hy_X9_draw : yX9_draw.cls = RX9 ∧ yX9_draw.cls ≠ "java/lang/invoke/MethodHandle" ∧ yX9_draw.cls ≠ "java/lang/invoke/VarHandle" ∧ (parseMethodDescriptor yX9_draw.desc).map (fun d => d.parameters.length) = some 0 := by decide +kernel
theorem hy_X9_layPairs : yX9_layPairs.cls = RX9 ∧ yX9_layPairs.cls ≠ "java/lang/invoke/MethodHandle" ∧ yX9_layPairs.cls ≠ "java/lang/invoke/VarHandle" ∧ (parseMethodDescriptor yX9_layPairs.desc).map (fun d => d.parameters.length) = some 0 := by decide +kernel
theorem hy_X9_layLeast : yX9_layLeast.cls = RX9 ∧ yX9_layLeast.cls ≠ "java/lang/invoke/MethodHandle" ∧ yX9_layLeast.cls ≠ "java/lang/invoke/VarHandle" ∧ (parseMethodDescriptor yX9_layLeast.desc).map (fun d => d.parameters.length) = some 0 := by decide +kernel
theorem hy_X9_first : yX9_first.cls = RX9 ∧ yX9_first.cls ≠ "java/lang/invoke/MethodHandle" ∧ yX9_first.cls ≠ "java/lang/invoke/VarHandle" ∧ (parseMethodDescriptor yX9_first.desc).map (fun d => d.parameters.length) = some 1 := by decide +kernel
theorem hy_X9_addBout : yX9_addBout.cls = RX9 ∧ yX9_addBout.cls ≠ "java/lang/invoke/MethodHandle" ∧ yX9_addBout.cls ≠ "java/lang/invoke/VarHandle" ∧ (parseMethodDescriptor yX9_addBout.desc).map (fun d => d.parameters.length) = some 2 := by decide +kernel
theorem hy_X9_cost : yX9_cost.cls = RX9 ∧ yX9_cost.cls ≠ "java/lang/invoke/MethodHandle" ∧ yX9_cost.cls ≠ "java/lang/invoke/VarHandle" ∧ (parseMethodDescriptor yX9_cost.desc).map (fun d => d.parameters.length) = some 0 := by decide +kernel
theorem hy_X9_result : yX9_result.cls = RX9 ∧ yX9_result.cls ≠ "java/lang/invoke/MethodHandle" ∧ yX9_result.cls ≠ "java/lang/invoke/VarHandle" ∧ (parseMethodDescriptor yX9_result.desc).map (fun d => d.parameters.length) = some 2 := by decide +kernel
theorem hy_X9_bout : yX9_bout.cls = RX9 ∧ yX9_bout.cls ≠ "java/lang/invoke/MethodHandle" ∧ yX9_bout.cls ≠ "java/lang/invoke/VarHandle" ∧ (parseMethodDescriptor yX9_bout.desc).map (fun d => d.parameters.length) = some 2 := by decide +kernel
theorem hy_X9_boutTold : yX9_boutTold.cls = RX9 ∧ yX9_boutTold.cls ≠ "java/lang/invoke/MethodHandle" ∧ yX9_boutTold.cls ≠ "java/lang/invoke/VarHandle" ∧ (parseMethodDescriptor yX9_boutTold.desc).map (fun d => d.parameters.length) = some 2 := by decide +kernel
theorem hy_X9_sat : yX9_sat.cls = RX9 ∧ yX9_sat.cls ≠ "java/lang/invoke/MethodHandle" ∧ yX9_sat.cls ≠ "java/lang/invoke/VarHandle" ∧ (parseMethodDescriptor yX9_sat.desc).map (fun d => d.parameters.length) = some 0 := by decide +kernel
theorem hy_X9_line : yX9_line.cls = RX9 ∧ yX9_line.cls ≠ "java/lang/invoke/MethodHandle" ∧ yX9_line.cls ≠ "java/lang/invoke/VarHandle" ∧ (parseMethodDescriptor yX9_line.desc).map (fun d => d.parameters.length) = some 3 := by decide +kernel
theorem hy_X9_anew : yX9_anew.cls = RX9 ∧ yX9_anew.cls ≠ "java/lang/invoke/MethodHandle" ∧ yX9_anew.cls ≠ "java/lang/invoke/VarHandle" ∧ (parseMethodDescriptor yX9_anew.desc).map (fun d => d.parameters.length) = some 0 := by decide +kernel
theorem hy_X9_lineFor : yX9_lineFor.cls = RX9 ∧ yX9_lineFor.cls ≠ "java/lang/invoke/MethodHandle" ∧ yX9_lineFor.cls ≠ "java/lang/invoke/VarHandle" ∧ (parseMethodDescriptor yX9_lineFor.desc).map (fun d => d.parameters.length) = some 2 := by decide +kernel
theorem hy_X9_order : yX9_order.cls = RX9 ∧ yX9_order.cls ≠ "java/lang/invoke/MethodHandle" ∧ yX9_order.cls ≠ "java/lang/invoke/VarHandle" ∧ (parseMethodDescriptor yX9_order.desc).map (fun d => d.parameters.length) = some 3 := by decide +kernel
theorem hy_X9_goesUp : yX9_goesUp.cls = RX9 ∧ yX9_goesUp.cls ≠ "java/lang/invoke/MethodHandle" ∧ yX9_goesUp.cls ≠ "java/lang/invoke/VarHandle" ∧ (parseMethodDescriptor yX9_goesUp.desc).map (fun d => d.parameters.length) = some 2 := by decide +kernel
theorem hy_X9_why : yX9_why.cls = RX9 ∧ yX9_why.cls ≠ "java/lang/invoke/MethodHandle" ∧ yX9_why.cls ≠ "java/lang/invoke/VarHandle" ∧ (parseMethodDescriptor yX9_why.desc).map (fun d => d.parameters.length) = some 1 := by decide +kernel
theorem hy_X9_passed : yX9_passed.cls = RX9 ∧ yX9_passed.cls ≠ "java/lang/invoke/MethodHandle" ∧ yX9_passed.cls ≠ "java/lang/invoke/VarHandle" ∧ (parseMethodDescriptor yX9_passed.desc).map (fun d => d.parameters.length) = some 2 := by decide +kernel
theorem hy_X9_beside : yX9_beside.cls = RX9 ∧ yX9_beside.cls ≠ "java/lang/invoke/MethodHandle" ∧ yX9_beside.cls ≠ "java/lang/invoke/VarHandle" ∧ (parseMethodDescriptor yX9_beside.desc).map (fun d => d.parameters.length) = some 1 := by decide +kernel
theorem hy_X9_rungBeside : yX9_rungBeside.cls = RX9 ∧ yX9_rungBeside.cls ≠ "java/lang/invoke/MethodHandle" ∧ yX9_rungBeside.cls ≠ "java/lang/invoke/VarHandle" ∧ (parseMethodDescriptor yX9_rungBeside.desc).map (fun d => d.parameters.length) = some 1 := by decide +kernel
theorem hy_X9_leaders : yX9_leaders.cls = RX9 ∧ yX9_leaders.cls ≠ "java/lang/invoke/MethodHandle" ∧ yX9_leaders.cls ≠ "java/lang/invoke/VarHandle" ∧ (parseMethodDescriptor yX9_leaders.desc).map (fun d => d.parameters.length) = some 0 := by decide +kernel
theorem hy_X9_leaderBits : yX9_leaderBits.cls = RX9 ∧ yX9_leaderBits.cls ≠ "java/lang/invoke/MethodHandle" ∧ yX9_leaderBits.cls ≠ "java/lang/invoke/VarHandle" ∧ (parseMethodDescriptor yX9_leaderBits.desc).map (fun d => d.parameters.length) = some 0 := by decide +kernel
theorem hy_X9_playOff : yX9_playOff.cls = RX9 ∧ yX9_playOff.cls ≠ "java/lang/invoke/MethodHandle" ∧ yX9_playOff.cls ≠ "java/lang/invoke/VarHandle" ∧ (parseMethodDescriptor yX9_playOff.desc).map (fun d => d.parameters.length) = some 0 := by decide +kernel
theorem hy_X9_left : yX9_left.cls = RX9 ∧ yX9_left.cls ≠ "java/lang/invoke/MethodHandle" ∧ yX9_left.cls ≠ "java/lang/invoke/VarHandle" ∧ (parseMethodDescriptor yX9_left.desc).map (fun d => d.parameters.length) = some 0 := by decide +kernel
theorem hy_X9_meets_ : yX9_meets_.cls = RX9 ∧ yX9_meets_.cls ≠ "java/lang/invoke/MethodHandle" ∧ yX9_meets_.cls ≠ "java/lang/invoke/VarHandle" ∧ (parseMethodDescriptor yX9_meets_.desc).map (fun d => d.parameters.length) = some 1 := by decide +kernel
theorem hy_X9_wins : yX9_wins.cls = RX9 ∧ yX9_wins.cls ≠ "java/lang/invoke/MethodHandle" ∧ yX9_wins.cls ≠ "java/lang/invoke/VarHandle" ∧ (parseMethodDescriptor yX9_wins.desc).map (fun d => d.parameters.length) = some 1 := by decide +kernel
theorem hy_X9_champion : yX9_champion.cls = RX9 ∧ yX9_champion.cls ≠ "java/lang/invoke/MethodHandle" ∧ yX9_champion.cls ≠ "java/lang/invoke/VarHandle" ∧ (parseMethodDescriptor yX9_champion.desc).map (fun d => d.parameters.length) = some 0 := by decide +kernel
theorem hy_X9_count : yX9_count.cls = RX9 ∧ yX9_count.cls ≠ "java/lang/invoke/MethodHandle" ∧ yX9_count.cls ≠ "java/lang/invoke/VarHandle" ∧ (parseMethodDescriptor yX9_count.desc).map (fun d => d.parameters.length) = some 1 := by decide +kernel
theorem hy_X9_digest : yX9_digest.cls = RX9 ∧ yX9_digest.cls ≠ "java/lang/invoke/MethodHandle" ∧ yX9_digest.cls ≠ "java/lang/invoke/VarHandle" ∧ (parseMethodDescriptor yX9_digest.desc).map (fun d => d.parameters.length) = some 0 := by decide +kernel
end
